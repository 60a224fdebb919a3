/-! ===== the class's council: what all can bear ===== -/
theorem n_Co_borneByAll : mN 157 = 3 := rfl
theorem l_Co_borneByAll : mL 157 = 5 := rfl
theorem r_Co_borneByAll : mR 157 = some .int := rfl
theorem n_Co_isBorneByAll : mN 158 = 3 := rfl
theorem l_Co_isBorneByAll : mL 158 = 3 := rfl
theorem r_Co_isBorneByAll : mR 158 = some .boolean := rfl
theorem n_Co_fairest : mN 159 = 2 := rfl
theorem l_Co_fairest : mL 159 = 8 := rfl
theorem r_Co_fairest : mR 159 = some .int := rfl
theorem n_Co_lossesFalling : mN 160 = 3 := rfl
theorem l_Co_lossesFalling : mL 160 = 6 := rfl
theorem r_Co_lossesFalling : mR 160 = some .long := rfl
theorem n_Co_barring : mN 161 = 2 := rfl
theorem l_Co_barring : mL 161 = 5 := rfl
theorem r_Co_barring : mR 161 = some .int := rfl
theorem n_Co_fewestOpen : mN 162 = 2 := rfl
theorem l_Co_fewestOpen : mL 162 = 4 := rfl
theorem r_Co_fewestOpen : mR 162 = some .int := rfl
theorem n_Co_canLeaveOpen : mN 163 = 3 := rfl
theorem l_Co_canLeaveOpen : mL 163 = 7 := rfl
theorem r_Co_canLeaveOpen : mR 163 = some .boolean := rfl
theorem n_Co_mostHands : mN 164 = 2 := rfl
theorem l_Co_mostHands : mL 164 = 9 := rfl
theorem r_Co_mostHands : mR 164 = some .int := rfl
theorem n_Co_lossOfAll : mN 165 = 3 := rfl
theorem l_Co_lossOfAll : mL 165 = 5 := rfl
theorem r_Co_lossOfAll : mR 165 = some .int := rfl
theorem seat_of {h : AH} {s : St} (W : RH h s) {j : Nat} (hj : j < sn s) : sd s j < s 107 18 ∧ s 111 (sd s j) = 0 := (mem_seats W).mp (sd_mem hj)
theorem seat_ix {h : AH} {s : St} (W : RH h s) {e : Nat} (he : e < s 107 18 ∧ s 111 e = 0) : ∃ j, j < sn s ∧ sd s j = e := by
  obtain ⟨j, hj, ej⟩ := List.mem_iff_getElem.mp ((mem_seats W).mpr he)
  refine ⟨j, hj, ?_⟩
  unfold sd
  rw [List.getD_eq_getElem?_getD, List.getElem?_eq_getElem hj]
  exact ej
/-- those who cannot bear a proposal and sit -/
noncomputable def bdN (s : St) (m x : Nat) : Nat := unB s m (slN (s 112 m) (s 113 m) x) &&& thoN s
theorem bd_bit {h : AH} {s : St} (W : RH h s) (g0 : s 107 22 = 0) {m x : Nat} (hm : m < s 107 19) (hx : isPr s m x) (e : Nat) : (bdN s m x).testBit e = true ↔ (e < s 107 18 ∧ s 111 e = 0) ∧ ¬ brP s e m x (evN s m) := by
  unfold bdN
  rw [Nat.testBit_and, Bool.and_eq_true, tho_bit W]
  constructor
  · rintro ⟨q1, q2⟩
    exact ⟨q2, (un_pr W g0 q2.1 hm hx).mp q1⟩
  · rintro ⟨q1, q2⟩
    exact ⟨(un_pr W g0 q1.1 hm hx).mpr q2, q1⟩
theorem bd_lt {h : AH} {s : St} (W : RH h s) (m x : Nat) : bdN s m x < 2 ^ 8 := and_lt (unB_lt W m _)
theorem pr_sl {s : St} {m x : Nat} (h1 : 1 ≤ s 112 m) (hx : x < 1 <<< (2 * s 112 m)) : isPr s m x ↔ ¬ slN (s 112 m) (s 113 m) x = 0 :=
  ⟨fun q => sl_n0 q.2 h1, fun q => ⟨hx, Classical.byContradiction fun c => q (sl_0 c)⟩⟩
/-- the least of a key among those that count, if keys differ -/
theorem mnG_min {C : Nat → Prop} {K : Nat → Nat} {q : Nat} (hq : C q) : ∀ {n}, q < n → (∀ a, a < n → C a → a ≠ q → K q < K a) → mnG C (fun a b => K a < K b) n = some q := by
  intro n
  induction n with
  | zero => intro z; exact absurd z (Nat.not_lt_zero _)
  | succ n ih =>
    intro z h
    by_cases e : q = n
    · subst e
      refine mnG_t ⟨hq, fun a ha => ?_⟩
      have := mnG_lt ha
      exact h a (by omega) this.2 (by omega)
    · have i := ih (by omega) (fun a ha => h a (by omega))
      rw [mnG_f, i]
      rintro ⟨c, l⟩
      have l1 := l q i
      have l2 := h n (by omega) c (fun y => e y.symm)
      omega
section
variable {h : AH} {s : St} {d m b : Nat}
theorem c_Co_isBorneByAll (W : RH h s) (g0 : s 107 22 = 0) {h2 : AH} (L : Lay h2) (C : CC h2 s) (hm : m < s 107 19) (M : MA h2 b (s 112 m)) (V : MV h2 s m b) {x : Nat} (hx : x < 1 <<< (2 * s 112 m)) : Mz (d + 3) 158 [.ref 59, .ref b, .int (nI (slN (s 112 m) (s 113 m) x))] h2 0 0 (Rt (bP (isPr s m x ∧ abP s m x)) h2) := by
  have b4 := rs_p W hm
  have slb := sl_lt b4.2.1 (s 113 m) x
  have ub := unB_lt W m (slN (s 112 m) (s 113 m) x)
  have ul := and_lt (b := thoN s) ub
  have ps := pr_sl (x := x) b4.1 hx
  refine mz_in (l := [some (.ref 59), some (.ref b), some (.int (nI (slN (s 112 m) (s 113 m) x)))]) mk_Co_isBorneByAll n_Co_isBorneByAll rfl l_Co_isBorneByAll rfl (Nat.le_of_ble_eq_true rfl) fun P hP => ?_
  have no : ¬ (isPr s m x ∧ abP s m x) → P 24 [some (.ref 59), some (.ref b), some (.int (nI (slN (s 112 m) (s 113 m) x)))] [] h2 0 0 := by
    intro q
    refine hP.1 _ _ s_Co_isBorneByAll_24 _ _ _ _ _ ?_
    simp (maxSteps := 1000000) (disch := omega) only [g_Co_isBorneByAll_24, slk, List.map_cons, List.map_nil, List.sum_cons, List.sum_nil, vc_i, vc_r, vc_n, vc_l, vc_o, Nat.add_zero, kO_e, kA_e, hdO_a, eq_self, blk, stp, lg, ls0, lk, ls1, ls2, kI_i, kL_l, kR_r, kR_n, kR_o, s1I_i, s2I_i, s1L_l, s2L_l, s1R_r, s1R_n, s1R_o, s1A_a, cmpc, popn, swt, rf_s, rf_n, cat_i, cat_r, cat_n, cat_l, true_and, and_true, List.length_cons, List.length_nil, Nat.zero_add, Int.reduceToNat, Nat.reduceAdd, Nat.reduceDiv, Nat.reduceMod, Nat.reduceMul, Nat.reduceSub, Nat.reduceLeDiff, Nat.reduceLT, Nat.reduceEqDiff, ↓reduceIte, r_gr_wi, r_gl_wi, r_gk_wi, r_gn_wi, r_wi_eq, r_wi_ne, r_wi_nj, r_gi_wr, r_gl_wr, r_gk_wr, r_gn_wr, r_gr_wa, r_gl_wa, r_gk_wa, r_gn_wa, aa_e, as_e, al_e, u_lt, u_le, u_gt, u_ge, u_lt0, u_le0, u_gt0, u_ge0, Classical.not_not, not_true_eq_false, not_false_eq_true, oi_n, oi_m, n_dec, nI_add, pk_mul, n_sub, n_eq, n_le, n_lt, n_eq0, n_lt0, n_le0, n_0lt, n_0le, n_eqm, m_eqn, n_ltm, n_and, n_or, n_xor, n_shl, n_shr, tb1, tb0, bP_1, bP_0, bP_n0, ix_n, inb_n, u_eq, u_eqm, ma_k M, C.1.2.2]
    refine hP.1 _ _ s_Co_isBorneByAll_25 _ _ _ _ _ ?_
    simp (maxSteps := 1000000) (disch := omega) only [g_Co_isBorneByAll_25, slk, List.map_cons, List.map_nil, List.sum_cons, List.sum_nil, vc_i, vc_r, vc_n, vc_l, vc_o, Nat.add_zero, kO_e, kA_e, hdO_a, eq_self, blk, stp, lg, ls0, lk, ls1, ls2, kI_i, kL_l, kR_r, kR_n, kR_o, s1I_i, s2I_i, s1L_l, s2L_l, s1R_r, s1R_n, s1R_o, s1A_a, cmpc, popn, swt, rf_s, rf_n, cat_i, cat_r, cat_n, cat_l, true_and, and_true, List.length_cons, List.length_nil, Nat.zero_add, Int.reduceToNat, Nat.reduceAdd, Nat.reduceDiv, Nat.reduceMod, Nat.reduceMul, Nat.reduceSub, Nat.reduceLeDiff, Nat.reduceLT, Nat.reduceEqDiff, ↓reduceIte, r_gr_wi, r_gl_wi, r_gk_wi, r_gn_wi, r_wi_eq, r_wi_ne, r_wi_nj, r_gi_wr, r_gl_wr, r_gk_wr, r_gn_wr, r_gr_wa, r_gl_wa, r_gk_wa, r_gn_wa, aa_e, as_e, al_e, u_lt, u_le, u_gt, u_ge, u_lt0, u_le0, u_gt0, u_ge0, Classical.not_not, not_true_eq_false, not_false_eq_true, oi_n, oi_m, n_dec, nI_add, pk_mul, n_sub, n_eq, n_le, n_lt, n_eq0, n_lt0, n_le0, n_0lt, n_0le, n_eqm, m_eqn, n_ltm, n_and, n_or, n_xor, n_shl, n_shr, tb1, tb0, bP_1, bP_0, bP_n0, ix_n, inb_n, u_eq, u_eqm, ma_k M, C.1.2.2]
    exact lfF r_Co_isBorneByAll q rfl
  refine hP.1 _ _ s_Co_isBorneByAll_0 _ _ _ _ _ ?_
  simp (maxSteps := 1000000) (disch := omega) only [g_Co_isBorneByAll_0, slk, List.map_cons, List.map_nil, List.sum_cons, List.sum_nil, vc_i, vc_r, vc_n, vc_l, vc_o, Nat.add_zero, kO_e, kA_e, hdO_a, eq_self, blk, stp, lg, ls0, lk, ls1, ls2, kI_i, kL_l, kR_r, kR_n, kR_o, s1I_i, s2I_i, s1L_l, s2L_l, s1R_r, s1R_n, s1R_o, s1A_a, cmpc, popn, swt, rf_s, rf_n, cat_i, cat_r, cat_n, cat_l, true_and, and_true, List.length_cons, List.length_nil, Nat.zero_add, Int.reduceToNat, Nat.reduceAdd, Nat.reduceDiv, Nat.reduceMod, Nat.reduceMul, Nat.reduceSub, Nat.reduceLeDiff, Nat.reduceLT, Nat.reduceEqDiff, ↓reduceIte, r_gr_wi, r_gl_wi, r_gk_wi, r_gn_wi, r_wi_eq, r_wi_ne, r_wi_nj, r_gi_wr, r_gl_wr, r_gk_wr, r_gn_wr, r_gr_wa, r_gl_wa, r_gk_wa, r_gn_wa, aa_e, as_e, al_e, u_lt, u_le, u_gt, u_ge, u_lt0, u_le0, u_gt0, u_ge0, Classical.not_not, not_true_eq_false, not_false_eq_true, oi_n, oi_m, n_dec, nI_add, pk_mul, n_sub, n_eq, n_le, n_lt, n_eq0, n_lt0, n_le0, n_0lt, n_0le, n_eqm, m_eqn, n_ltm, n_and, n_or, n_xor, n_shl, n_shr, tb1, tb0, bP_1, bP_0, bP_n0, ix_n, inb_n, u_eq, u_eqm, ma_k M, C.1.2.2]
  refine ⟨fun q => no (fun z => ps.mp z.1 q), fun q => ?_⟩
  have pr := ps.mpr q
  have iab := un_ab W g0 hm pr
  refine hP.1 _ _ s_Co_isBorneByAll_4 _ _ _ _ _ ?_
  simp (maxSteps := 1000000) (disch := omega) only [g_Co_isBorneByAll_4, slk, List.map_cons, List.map_nil, List.sum_cons, List.sum_nil, vc_i, vc_r, vc_n, vc_l, vc_o, Nat.add_zero, kO_e, kA_e, hdO_a, eq_self, blk, stp, lg, ls0, lk, ls1, ls2, kI_i, kL_l, kR_r, kR_n, kR_o, s1I_i, s2I_i, s1L_l, s2L_l, s1R_r, s1R_n, s1R_o, s1A_a, cmpc, popn, swt, rf_s, rf_n, cat_i, cat_r, cat_n, cat_l, true_and, and_true, List.length_cons, List.length_nil, Nat.zero_add, Int.reduceToNat, Nat.reduceAdd, Nat.reduceDiv, Nat.reduceMod, Nat.reduceMul, Nat.reduceSub, Nat.reduceLeDiff, Nat.reduceLT, Nat.reduceEqDiff, ↓reduceIte, r_gr_wi, r_gl_wi, r_gk_wi, r_gn_wi, r_wi_eq, r_wi_ne, r_wi_nj, r_gi_wr, r_gl_wr, r_gk_wr, r_gn_wr, r_gr_wa, r_gl_wa, r_gk_wa, r_gn_wa, aa_e, as_e, al_e, u_lt, u_le, u_gt, u_ge, u_lt0, u_le0, u_gt0, u_ge0, Classical.not_not, not_true_eq_false, not_false_eq_true, oi_n, oi_m, n_dec, nI_add, pk_mul, n_sub, n_eq, n_le, n_lt, n_eq0, n_lt0, n_le0, n_0lt, n_0le, n_eqm, m_eqn, n_ltm, n_and, n_or, n_xor, n_shl, n_shr, tb1, tb0, bP_1, bP_0, bP_n0, ix_n, inb_n, u_eq, u_eqm, k59 L, f59_0 L, k21 L, ma_k M, C.1.2.2]
  refine wc (c_Ma_unable W M V slb) ⟨by omega, by omega⟩ ?_
  simp (maxSteps := 1000000) (disch := omega) only [slk, List.map_cons, List.map_nil, List.sum_cons, List.sum_nil, vc_i, vc_r, vc_n, vc_l, vc_o, Nat.add_zero, kO_e, kA_e, hdO_a, eq_self, blk, stp, lg, ls0, lk, ls1, ls2, kI_i, kL_l, kR_r, kR_n, kR_o, s1I_i, s2I_i, s1L_l, s2L_l, s1R_r, s1R_n, s1R_o, s1A_a, cmpc, popn, swt, rf_s, rf_n, cat_i, cat_r, cat_n, cat_l, true_and, and_true, List.length_cons, List.length_nil, Nat.zero_add, Int.reduceToNat, Nat.reduceAdd, Nat.reduceDiv, Nat.reduceMod, Nat.reduceMul, Nat.reduceSub, Nat.reduceLeDiff, Nat.reduceLT, Nat.reduceEqDiff, ↓reduceIte, r_gr_wi, r_gl_wi, r_gk_wi, r_gn_wi, r_wi_eq, r_wi_ne, r_wi_nj, r_gi_wr, r_gl_wr, r_gk_wr, r_gn_wr, r_gr_wa, r_gl_wa, r_gk_wa, r_gn_wa, aa_e, as_e, al_e, u_lt, u_le, u_gt, u_ge, u_lt0, u_le0, u_gt0, u_ge0, Classical.not_not, not_true_eq_false, not_false_eq_true, oi_n, oi_m, n_dec, nI_add, pk_mul, n_sub, n_eq, n_le, n_lt, n_eq0, n_lt0, n_le0, n_0lt, n_0le, n_eqm, m_eqn, n_ltm, n_and, n_or, n_xor, n_shl, n_shr, tb1, tb0, bP_1, bP_0, bP_n0, ix_n, inb_n, u_eq, u_eqm, k59 L, f59_0 L, k21 L, ma_k M, C.1.2.2]
  refine ⟨fun q2 => no (fun z => q2 (iab.mpr z.2)), fun q2 => ?_⟩
  refine hP.1 _ _ s_Co_isBorneByAll_20 _ _ _ _ _ ?_
  simp (maxSteps := 1000000) (disch := omega) only [g_Co_isBorneByAll_20, slk, List.map_cons, List.map_nil, List.sum_cons, List.sum_nil, vc_i, vc_r, vc_n, vc_l, vc_o, Nat.add_zero, kO_e, kA_e, hdO_a, eq_self, blk, stp, lg, ls0, lk, ls1, ls2, kI_i, kL_l, kR_r, kR_n, kR_o, s1I_i, s2I_i, s1L_l, s2L_l, s1R_r, s1R_n, s1R_o, s1A_a, cmpc, popn, swt, rf_s, rf_n, cat_i, cat_r, cat_n, cat_l, true_and, and_true, List.length_cons, List.length_nil, Nat.zero_add, Int.reduceToNat, Nat.reduceAdd, Nat.reduceDiv, Nat.reduceMod, Nat.reduceMul, Nat.reduceSub, Nat.reduceLeDiff, Nat.reduceLT, Nat.reduceEqDiff, ↓reduceIte, r_gr_wi, r_gl_wi, r_gk_wi, r_gn_wi, r_wi_eq, r_wi_ne, r_wi_nj, r_gi_wr, r_gl_wr, r_gk_wr, r_gn_wr, r_gr_wa, r_gl_wa, r_gk_wa, r_gn_wa, aa_e, as_e, al_e, u_lt, u_le, u_gt, u_ge, u_lt0, u_le0, u_gt0, u_ge0, Classical.not_not, not_true_eq_false, not_false_eq_true, oi_n, oi_m, n_dec, nI_add, pk_mul, n_sub, n_eq, n_le, n_lt, n_eq0, n_lt0, n_le0, n_0lt, n_0le, n_eqm, m_eqn, n_ltm, n_and, n_or, n_xor, n_shl, n_shr, tb1, tb0, bP_1, bP_0, bP_n0, ix_n, inb_n, u_eq, u_eqm, ma_k M, C.1.2.2]
  refine hP.1 _ _ s_Co_isBorneByAll_25 _ _ _ _ _ ?_
  simp (maxSteps := 1000000) (disch := omega) only [g_Co_isBorneByAll_25, slk, List.map_cons, List.map_nil, List.sum_cons, List.sum_nil, vc_i, vc_r, vc_n, vc_l, vc_o, Nat.add_zero, kO_e, kA_e, hdO_a, eq_self, blk, stp, lg, ls0, lk, ls1, ls2, kI_i, kL_l, kR_r, kR_n, kR_o, s1I_i, s2I_i, s1L_l, s2L_l, s1R_r, s1R_n, s1R_o, s1A_a, cmpc, popn, swt, rf_s, rf_n, cat_i, cat_r, cat_n, cat_l, true_and, and_true, List.length_cons, List.length_nil, Nat.zero_add, Int.reduceToNat, Nat.reduceAdd, Nat.reduceDiv, Nat.reduceMod, Nat.reduceMul, Nat.reduceSub, Nat.reduceLeDiff, Nat.reduceLT, Nat.reduceEqDiff, ↓reduceIte, r_gr_wi, r_gl_wi, r_gk_wi, r_gn_wi, r_wi_eq, r_wi_ne, r_wi_nj, r_gi_wr, r_gl_wr, r_gk_wr, r_gn_wr, r_gr_wa, r_gl_wa, r_gk_wa, r_gn_wa, aa_e, as_e, al_e, u_lt, u_le, u_gt, u_ge, u_lt0, u_le0, u_gt0, u_ge0, Classical.not_not, not_true_eq_false, not_false_eq_true, oi_n, oi_m, n_dec, nI_add, pk_mul, n_sub, n_eq, n_le, n_lt, n_eq0, n_lt0, n_le0, n_0lt, n_0le, n_eqm, m_eqn, n_ltm, n_and, n_or, n_xor, n_shl, n_shr, tb1, tb0, bP_1, bP_0, bP_n0, ix_n, inb_n, u_eq, u_eqm, ma_k M, C.1.2.2]
  exact lfT r_Co_isBorneByAll ⟨pr, iab.mp ((by first | exact q2 | exact Classical.not_not.mp q2))⟩ rfl
theorem c_Co_borneByAll (W : RH h s) (g0 : s 107 22 = 0) {h2 : AH} (L : Lay h2) (C : CC h2 s) (hm : m < s 107 19) (M : MA h2 b (s 112 m)) (V : MV h2 s m b) {i : Nat} (hi : i < 2147483648 ∨ i = 4294967295) : Mz (d + 4) 157 [.ref 59, .ref b, .int (nI i)] h2 0 0 (Rt (allR s m i) h2) := by
  have b4 := rs_p W hm
  have b5 := sh_1024 b4.2.1
  refine mz_in (l := [some (.ref 59), some (.ref b), some (.int (nI i)), none, none]) mk_Co_borneByAll n_Co_borneByAll rfl l_Co_borneByAll rfl (Nat.le_of_ble_eq_true rfl) fun P hP => ?_
  have loop : ∀ n k c, k + n = 1 <<< (2 * s 112 m) → c ≤ k → allR s m i = nthS (fun x => isPr s m x ∧ abP s m x) i n k c → P 5 [some (.ref 59), some (.ref b), some (.int (nI i)), some (.int (nI c)), some (.int (nI k))] [] h2 0 0 := by
    intro n
    induction n using Nat.strongRecOn with
    | _ n ih =>
      intro k c hk hc ea
      refine hP.1 _ _ s_Co_borneByAll_5 _ _ _ _ _ ?_
      simp (maxSteps := 1000000) (disch := omega) only [g_Co_borneByAll_5, slk, List.map_cons, List.map_nil, List.sum_cons, List.sum_nil, vc_i, vc_r, vc_n, vc_l, vc_o, Nat.add_zero, kO_e, kA_e, hdO_a, eq_self, blk, stp, lg, ls0, lk, ls1, ls2, kI_i, kL_l, kR_r, kR_n, kR_o, s1I_i, s2I_i, s1L_l, s2L_l, s1R_r, s1R_n, s1R_o, s1A_a, cmpc, popn, swt, rf_s, rf_n, cat_i, cat_r, cat_n, cat_l, true_and, and_true, List.length_cons, List.length_nil, Nat.zero_add, Int.reduceToNat, Nat.reduceAdd, Nat.reduceDiv, Nat.reduceMod, Nat.reduceMul, Nat.reduceSub, Nat.reduceLeDiff, Nat.reduceLT, Nat.reduceEqDiff, ↓reduceIte, r_gr_wi, r_gl_wi, r_gk_wi, r_gn_wi, r_wi_eq, r_wi_ne, r_wi_nj, r_gi_wr, r_gl_wr, r_gk_wr, r_gn_wr, r_gr_wa, r_gl_wa, r_gk_wa, r_gn_wa, aa_e, as_e, al_e, u_lt, u_le, u_gt, u_ge, u_lt0, u_le0, u_gt0, u_ge0, Classical.not_not, not_true_eq_false, not_false_eq_true, oi_n, oi_m, n_dec, nI_add, pk_mul, n_sub, n_eq, n_le, n_lt, n_eq0, n_lt0, n_le0, n_0lt, n_0le, n_eqm, m_eqn, n_ltm, n_and, n_or, n_xor, n_shl, n_shr, tb1, tb0, bP_1, bP_0, bP_n0, ix_n, inb_n, u_eq, u_eqm, ma_k M, ma_k1 M, ma_k2 M, ma_k3 M, ma_k12 M, ma_k13 M, ma_k14 M, ma_r2 M, ma_r3 M, ma_r4 M, ma_r5 M, ma_r6 M, ma_r7 M]
      refine ⟨fun hc2 => ?_, fun hc2 => ?_⟩
      · have e1 : n = 0 := by omega
        subst e1
        have ea2 : allR s m i = if i = 4294967295 then nI c else -1 := ea
        have j56 : ¬ i = 4294967295 → P 56 [some (.ref 59), some (.ref b), some (.int (nI i)), some (.int (nI c)), some (.int (nI k))] [] h2 0 0 := by
          intro q
          rw [if_neg q] at ea2
          refine hP.1 _ _ s_Co_borneByAll_56 _ _ _ _ _ ?_
          simp (maxSteps := 1000000) (disch := omega) only [g_Co_borneByAll_56, slk, List.map_cons, List.map_nil, List.sum_cons, List.sum_nil, vc_i, vc_r, vc_n, vc_l, vc_o, Nat.add_zero, kO_e, kA_e, hdO_a, eq_self, blk, stp, lg, ls0, lk, ls1, ls2, kI_i, kL_l, kR_r, kR_n, kR_o, s1I_i, s2I_i, s1L_l, s2L_l, s1R_r, s1R_n, s1R_o, s1A_a, cmpc, popn, swt, rf_s, rf_n, cat_i, cat_r, cat_n, cat_l, true_and, and_true, List.length_cons, List.length_nil, Nat.zero_add, Int.reduceToNat, Nat.reduceAdd, Nat.reduceDiv, Nat.reduceMod, Nat.reduceMul, Nat.reduceSub, Nat.reduceLeDiff, Nat.reduceLT, Nat.reduceEqDiff, ↓reduceIte, r_gr_wi, r_gl_wi, r_gk_wi, r_gn_wi, r_wi_eq, r_wi_ne, r_wi_nj, r_gi_wr, r_gl_wr, r_gk_wr, r_gn_wr, r_gr_wa, r_gl_wa, r_gk_wa, r_gn_wa, aa_e, as_e, al_e, u_lt, u_le, u_gt, u_ge, u_lt0, u_le0, u_gt0, u_ge0, Classical.not_not, not_true_eq_false, not_false_eq_true, oi_n, oi_m, n_dec, nI_add, pk_mul, n_sub, n_eq, n_le, n_lt, n_eq0, n_lt0, n_le0, n_0lt, n_0le, n_eqm, m_eqn, n_ltm, n_and, n_or, n_xor, n_shl, n_shr, tb1, tb0, bP_1, bP_0, bP_n0, ix_n, inb_n, u_eq, u_eqm, ma_k M, ma_k1 M, ma_k2 M, ma_k3 M, ma_k12 M, ma_k13 M, ma_k14 M, ma_r2 M, ma_r3 M, ma_r4 M, ma_r5 M, ma_r6 M, ma_r7 M]
          refine hP.1 _ _ s_Co_borneByAll_57 _ _ _ _ _ ?_
          simp (maxSteps := 1000000) (disch := omega) only [g_Co_borneByAll_57, slk, List.map_cons, List.map_nil, List.sum_cons, List.sum_nil, vc_i, vc_r, vc_n, vc_l, vc_o, Nat.add_zero, kO_e, kA_e, hdO_a, eq_self, blk, stp, lg, ls0, lk, ls1, ls2, kI_i, kL_l, kR_r, kR_n, kR_o, s1I_i, s2I_i, s1L_l, s2L_l, s1R_r, s1R_n, s1R_o, s1A_a, cmpc, popn, swt, rf_s, rf_n, cat_i, cat_r, cat_n, cat_l, true_and, and_true, List.length_cons, List.length_nil, Nat.zero_add, Int.reduceToNat, Nat.reduceAdd, Nat.reduceDiv, Nat.reduceMod, Nat.reduceMul, Nat.reduceSub, Nat.reduceLeDiff, Nat.reduceLT, Nat.reduceEqDiff, ↓reduceIte, r_gr_wi, r_gl_wi, r_gk_wi, r_gn_wi, r_wi_eq, r_wi_ne, r_wi_nj, r_gi_wr, r_gl_wr, r_gk_wr, r_gn_wr, r_gr_wa, r_gl_wa, r_gk_wa, r_gn_wa, aa_e, as_e, al_e, u_lt, u_le, u_gt, u_ge, u_lt0, u_le0, u_gt0, u_ge0, Classical.not_not, not_true_eq_false, not_false_eq_true, oi_n, oi_m, n_dec, nI_add, pk_mul, n_sub, n_eq, n_le, n_lt, n_eq0, n_lt0, n_le0, n_0lt, n_0le, n_eqm, m_eqn, n_ltm, n_and, n_or, n_xor, n_shl, n_shr, tb1, tb0, bP_1, bP_0, bP_n0, ix_n, inb_n, u_eq, u_eqm, ma_k M, ma_k1 M, ma_k2 M, ma_k3 M, ma_k12 M, ma_k13 M, ma_k14 M, ma_r2 M, ma_r3 M, ma_r4 M, ma_r5 M, ma_r6 M, ma_r7 M]
          exact lfI r_Co_borneByAll ea2.symm rfl
        refine hP.1 _ _ s_Co_borneByAll_47 _ _ _ _ _ ?_
        simp (maxSteps := 1000000) (disch := omega) only [g_Co_borneByAll_47, slk, List.map_cons, List.map_nil, List.sum_cons, List.sum_nil, vc_i, vc_r, vc_n, vc_l, vc_o, Nat.add_zero, kO_e, kA_e, hdO_a, eq_self, blk, stp, lg, ls0, lk, ls1, ls2, kI_i, kL_l, kR_r, kR_n, kR_o, s1I_i, s2I_i, s1L_l, s2L_l, s1R_r, s1R_n, s1R_o, s1A_a, cmpc, popn, swt, rf_s, rf_n, cat_i, cat_r, cat_n, cat_l, true_and, and_true, List.length_cons, List.length_nil, Nat.zero_add, Int.reduceToNat, Nat.reduceAdd, Nat.reduceDiv, Nat.reduceMod, Nat.reduceMul, Nat.reduceSub, Nat.reduceLeDiff, Nat.reduceLT, Nat.reduceEqDiff, ↓reduceIte, r_gr_wi, r_gl_wi, r_gk_wi, r_gn_wi, r_wi_eq, r_wi_ne, r_wi_nj, r_gi_wr, r_gl_wr, r_gk_wr, r_gn_wr, r_gr_wa, r_gl_wa, r_gk_wa, r_gn_wa, aa_e, as_e, al_e, u_lt, u_le, u_gt, u_ge, u_lt0, u_le0, u_gt0, u_ge0, Classical.not_not, not_true_eq_false, not_false_eq_true, oi_n, oi_m, n_dec, nI_add, pk_mul, n_sub, n_eq, n_le, n_lt, n_eq0, n_lt0, n_le0, n_0lt, n_0le, n_eqm, m_eqn, n_ltm, n_and, n_or, n_xor, n_shl, n_shr, tb1, tb0, bP_1, bP_0, bP_n0, ix_n, inb_n, u_eq, u_eqm, ma_k M, ma_k1 M, ma_k2 M, ma_k3 M, ma_k12 M, ma_k13 M, ma_k14 M, ma_r2 M, ma_r3 M, ma_r4 M, ma_r5 M, ma_r6 M, ma_r7 M]
        refine ⟨fun q => j56 (by first | exact q | omega), fun q => ?_⟩
        have q' : i = 4294967295 := by
          first | exact q | exact Classical.byContradiction q
        rw [if_pos q'] at ea2
        refine hP.1 _ _ s_Co_borneByAll_52 _ _ _ _ _ ?_
        simp (maxSteps := 1000000) (disch := omega) only [g_Co_borneByAll_52, slk, List.map_cons, List.map_nil, List.sum_cons, List.sum_nil, vc_i, vc_r, vc_n, vc_l, vc_o, Nat.add_zero, kO_e, kA_e, hdO_a, eq_self, blk, stp, lg, ls0, lk, ls1, ls2, kI_i, kL_l, kR_r, kR_n, kR_o, s1I_i, s2I_i, s1L_l, s2L_l, s1R_r, s1R_n, s1R_o, s1A_a, cmpc, popn, swt, rf_s, rf_n, cat_i, cat_r, cat_n, cat_l, true_and, and_true, List.length_cons, List.length_nil, Nat.zero_add, Int.reduceToNat, Nat.reduceAdd, Nat.reduceDiv, Nat.reduceMod, Nat.reduceMul, Nat.reduceSub, Nat.reduceLeDiff, Nat.reduceLT, Nat.reduceEqDiff, ↓reduceIte, r_gr_wi, r_gl_wi, r_gk_wi, r_gn_wi, r_wi_eq, r_wi_ne, r_wi_nj, r_gi_wr, r_gl_wr, r_gk_wr, r_gn_wr, r_gr_wa, r_gl_wa, r_gk_wa, r_gn_wa, aa_e, as_e, al_e, u_lt, u_le, u_gt, u_ge, u_lt0, u_le0, u_gt0, u_ge0, Classical.not_not, not_true_eq_false, not_false_eq_true, oi_n, oi_m, n_dec, nI_add, pk_mul, n_sub, n_eq, n_le, n_lt, n_eq0, n_lt0, n_le0, n_0lt, n_0le, n_eqm, m_eqn, n_ltm, n_and, n_or, n_xor, n_shl, n_shr, tb1, tb0, bP_1, bP_0, bP_n0, ix_n, inb_n, u_eq, u_eqm, ma_k M, ma_k1 M, ma_k2 M, ma_k3 M, ma_k12 M, ma_k13 M, ma_k14 M, ma_r2 M, ma_r3 M, ma_r4 M, ma_r5 M, ma_r6 M, ma_r7 M]
        refine hP.1 _ _ s_Co_borneByAll_57 _ _ _ _ _ ?_
        simp (maxSteps := 1000000) (disch := omega) only [g_Co_borneByAll_57, slk, List.map_cons, List.map_nil, List.sum_cons, List.sum_nil, vc_i, vc_r, vc_n, vc_l, vc_o, Nat.add_zero, kO_e, kA_e, hdO_a, eq_self, blk, stp, lg, ls0, lk, ls1, ls2, kI_i, kL_l, kR_r, kR_n, kR_o, s1I_i, s2I_i, s1L_l, s2L_l, s1R_r, s1R_n, s1R_o, s1A_a, cmpc, popn, swt, rf_s, rf_n, cat_i, cat_r, cat_n, cat_l, true_and, and_true, List.length_cons, List.length_nil, Nat.zero_add, Int.reduceToNat, Nat.reduceAdd, Nat.reduceDiv, Nat.reduceMod, Nat.reduceMul, Nat.reduceSub, Nat.reduceLeDiff, Nat.reduceLT, Nat.reduceEqDiff, ↓reduceIte, r_gr_wi, r_gl_wi, r_gk_wi, r_gn_wi, r_wi_eq, r_wi_ne, r_wi_nj, r_gi_wr, r_gl_wr, r_gk_wr, r_gn_wr, r_gr_wa, r_gl_wa, r_gk_wa, r_gn_wa, aa_e, as_e, al_e, u_lt, u_le, u_gt, u_ge, u_lt0, u_le0, u_gt0, u_ge0, Classical.not_not, not_true_eq_false, not_false_eq_true, oi_n, oi_m, n_dec, nI_add, pk_mul, n_sub, n_eq, n_le, n_lt, n_eq0, n_lt0, n_le0, n_0lt, n_0le, n_eqm, m_eqn, n_ltm, n_and, n_or, n_xor, n_shl, n_shr, tb1, tb0, bP_1, bP_0, bP_n0, ix_n, inb_n, u_eq, u_eqm, ma_k M, ma_k1 M, ma_k2 M, ma_k3 M, ma_k12 M, ma_k13 M, ma_k14 M, ma_r2 M, ma_r3 M, ma_r4 M, ma_r5 M, ma_r6 M, ma_r7 M]
        exact lfI r_Co_borneByAll ea2.symm rfl
      · have hk2 : k < 1 <<< (2 * s 112 m) := by omega
        obtain ⟨n2, rfl⟩ : ∃ n2, n = n2 + 1 := ⟨n - 1, by omega⟩
        have ea2 : allR s m i = @ite _ (isPr s m k ∧ abP s m k) (Classical.propDecidable _) (if c = i then nI k else nthS (fun x => isPr s m x ∧ abP s m x) i n2 (k + 1) (c + 1)) (nthS (fun x => isPr s m x ∧ abP s m x) i n2 (k + 1) c) := ea
        have sl := V.2.1 k hk2
        refine hP.1 _ _ s_Co_borneByAll_15 _ _ _ _ _ ?_
        simp (maxSteps := 1000000) (disch := omega) only [g_Co_borneByAll_15, slk, List.map_cons, List.map_nil, List.sum_cons, List.sum_nil, vc_i, vc_r, vc_n, vc_l, vc_o, Nat.add_zero, kO_e, kA_e, hdO_a, eq_self, blk, stp, lg, ls0, lk, ls1, ls2, kI_i, kL_l, kR_r, kR_n, kR_o, s1I_i, s2I_i, s1L_l, s2L_l, s1R_r, s1R_n, s1R_o, s1A_a, cmpc, popn, swt, rf_s, rf_n, cat_i, cat_r, cat_n, cat_l, true_and, and_true, List.length_cons, List.length_nil, Nat.zero_add, Int.reduceToNat, Nat.reduceAdd, Nat.reduceDiv, Nat.reduceMod, Nat.reduceMul, Nat.reduceSub, Nat.reduceLeDiff, Nat.reduceLT, Nat.reduceEqDiff, ↓reduceIte, r_gr_wi, r_gl_wi, r_gk_wi, r_gn_wi, r_wi_eq, r_wi_ne, r_wi_nj, r_gi_wr, r_gl_wr, r_gk_wr, r_gn_wr, r_gr_wa, r_gl_wa, r_gk_wa, r_gn_wa, aa_e, as_e, al_e, u_lt, u_le, u_gt, u_ge, u_lt0, u_le0, u_gt0, u_ge0, Classical.not_not, not_true_eq_false, not_false_eq_true, oi_n, oi_m, n_dec, nI_add, pk_mul, n_sub, n_eq, n_le, n_lt, n_eq0, n_lt0, n_le0, n_0lt, n_0le, n_eqm, m_eqn, n_ltm, n_and, n_or, n_xor, n_shl, n_shr, tb1, tb0, bP_1, bP_0, bP_n0, ix_n, inb_n, u_eq, u_eqm, k59 L, ma_k M, ma_k1 M, ma_k2 M, ma_k3 M, ma_k12 M, ma_k13 M, ma_k14 M, ma_r2 M, ma_r3 M, ma_r4 M, ma_r5 M, ma_r6 M, ma_r7 M, sl]
        refine wc (c_Co_isBorneByAll W g0 L C hm M V hk2) ⟨by omega, by omega⟩ ?_
        simp (maxSteps := 1000000) (disch := omega) only [slk, List.map_cons, List.map_nil, List.sum_cons, List.sum_nil, vc_i, vc_r, vc_n, vc_l, vc_o, Nat.add_zero, kO_e, kA_e, hdO_a, eq_self, blk, stp, lg, ls0, lk, ls1, ls2, kI_i, kL_l, kR_r, kR_n, kR_o, s1I_i, s2I_i, s1L_l, s2L_l, s1R_r, s1R_n, s1R_o, s1A_a, cmpc, popn, swt, rf_s, rf_n, cat_i, cat_r, cat_n, cat_l, true_and, and_true, List.length_cons, List.length_nil, Nat.zero_add, Int.reduceToNat, Nat.reduceAdd, Nat.reduceDiv, Nat.reduceMod, Nat.reduceMul, Nat.reduceSub, Nat.reduceLeDiff, Nat.reduceLT, Nat.reduceEqDiff, ↓reduceIte, r_gr_wi, r_gl_wi, r_gk_wi, r_gn_wi, r_wi_eq, r_wi_ne, r_wi_nj, r_gi_wr, r_gl_wr, r_gk_wr, r_gn_wr, r_gr_wa, r_gl_wa, r_gk_wa, r_gn_wa, aa_e, as_e, al_e, u_lt, u_le, u_gt, u_ge, u_lt0, u_le0, u_gt0, u_ge0, Classical.not_not, not_true_eq_false, not_false_eq_true, oi_n, oi_m, n_dec, nI_add, pk_mul, n_sub, n_eq, n_le, n_lt, n_eq0, n_lt0, n_le0, n_0lt, n_0le, n_eqm, m_eqn, n_ltm, n_and, n_or, n_xor, n_shl, n_shr, tb1, tb0, bP_1, bP_0, bP_n0, ix_n, inb_n, u_eq, u_eqm, k59 L, ma_k M, ma_k1 M, ma_k2 M, ma_k3 M, ma_k12 M, ma_k13 M, ma_k14 M, ma_r2 M, ma_r3 M, ma_r4 M, ma_r5 M, ma_r6 M, ma_r7 M, sl]
        refine ⟨fun q => ?_, fun q => ?_⟩
        · rw [if_neg q] at ea2
          refine hP.1 _ _ s_Co_borneByAll_41 _ _ _ _ _ ?_
          simp (maxSteps := 1000000) (disch := omega) only [g_Co_borneByAll_41, slk, List.map_cons, List.map_nil, List.sum_cons, List.sum_nil, vc_i, vc_r, vc_n, vc_l, vc_o, Nat.add_zero, kO_e, kA_e, hdO_a, eq_self, blk, stp, lg, ls0, lk, ls1, ls2, kI_i, kL_l, kR_r, kR_n, kR_o, s1I_i, s2I_i, s1L_l, s2L_l, s1R_r, s1R_n, s1R_o, s1A_a, cmpc, popn, swt, rf_s, rf_n, cat_i, cat_r, cat_n, cat_l, true_and, and_true, List.length_cons, List.length_nil, Nat.zero_add, Int.reduceToNat, Nat.reduceAdd, Nat.reduceDiv, Nat.reduceMod, Nat.reduceMul, Nat.reduceSub, Nat.reduceLeDiff, Nat.reduceLT, Nat.reduceEqDiff, ↓reduceIte, r_gr_wi, r_gl_wi, r_gk_wi, r_gn_wi, r_wi_eq, r_wi_ne, r_wi_nj, r_gi_wr, r_gl_wr, r_gk_wr, r_gn_wr, r_gr_wa, r_gl_wa, r_gk_wa, r_gn_wa, aa_e, as_e, al_e, u_lt, u_le, u_gt, u_ge, u_lt0, u_le0, u_gt0, u_ge0, Classical.not_not, not_true_eq_false, not_false_eq_true, oi_n, oi_m, n_dec, nI_add, pk_mul, n_sub, n_eq, n_le, n_lt, n_eq0, n_lt0, n_le0, n_0lt, n_0le, n_eqm, m_eqn, n_ltm, n_and, n_or, n_xor, n_shl, n_shr, tb1, tb0, bP_1, bP_0, bP_n0, ix_n, inb_n, u_eq, u_eqm, ma_k M, ma_k1 M, ma_k2 M, ma_k3 M, ma_k12 M, ma_k13 M, ma_k14 M, ma_r2 M, ma_r3 M, ma_r4 M, ma_r5 M, ma_r6 M, ma_r7 M, sl]
          exact ih n2 (by omega) (k + 1) c (by omega) (by omega) ea2
        · rw [if_pos ((by first | exact q | exact Classical.not_not.mp q))] at ea2
          refine hP.1 _ _ s_Co_borneByAll_30 _ _ _ _ _ ?_
          simp (maxSteps := 1000000) (disch := omega) only [g_Co_borneByAll_30, slk, List.map_cons, List.map_nil, List.sum_cons, List.sum_nil, vc_i, vc_r, vc_n, vc_l, vc_o, Nat.add_zero, kO_e, kA_e, hdO_a, eq_self, blk, stp, lg, ls0, lk, ls1, ls2, kI_i, kL_l, kR_r, kR_n, kR_o, s1I_i, s2I_i, s1L_l, s2L_l, s1R_r, s1R_n, s1R_o, s1A_a, cmpc, popn, swt, rf_s, rf_n, cat_i, cat_r, cat_n, cat_l, true_and, and_true, List.length_cons, List.length_nil, Nat.zero_add, Int.reduceToNat, Nat.reduceAdd, Nat.reduceDiv, Nat.reduceMod, Nat.reduceMul, Nat.reduceSub, Nat.reduceLeDiff, Nat.reduceLT, Nat.reduceEqDiff, ↓reduceIte, r_gr_wi, r_gl_wi, r_gk_wi, r_gn_wi, r_wi_eq, r_wi_ne, r_wi_nj, r_gi_wr, r_gl_wr, r_gk_wr, r_gn_wr, r_gr_wa, r_gl_wa, r_gk_wa, r_gn_wa, aa_e, as_e, al_e, u_lt, u_le, u_gt, u_ge, u_lt0, u_le0, u_gt0, u_ge0, Classical.not_not, not_true_eq_false, not_false_eq_true, oi_n, oi_m, n_dec, nI_add, pk_mul, n_sub, n_eq, n_le, n_lt, n_eq0, n_lt0, n_le0, n_0lt, n_0le, n_eqm, m_eqn, n_ltm, n_and, n_or, n_xor, n_shl, n_shr, tb1, tb0, bP_1, bP_0, bP_n0, ix_n, inb_n, u_eq, u_eqm, ma_k M, ma_k1 M, ma_k2 M, ma_k3 M, ma_k12 M, ma_k13 M, ma_k14 M, ma_r2 M, ma_r3 M, ma_r4 M, ma_r5 M, ma_r6 M, ma_r7 M, sl]
          refine ⟨fun q2 => ?_, fun q2 => ?_⟩
          · rw [if_neg (show ¬ c = i from q2)] at ea2
            refine hP.1 _ _ s_Co_borneByAll_38 _ _ _ _ _ ?_
            simp (maxSteps := 1000000) (disch := omega) only [g_Co_borneByAll_38, slk, List.map_cons, List.map_nil, List.sum_cons, List.sum_nil, vc_i, vc_r, vc_n, vc_l, vc_o, Nat.add_zero, kO_e, kA_e, hdO_a, eq_self, blk, stp, lg, ls0, lk, ls1, ls2, kI_i, kL_l, kR_r, kR_n, kR_o, s1I_i, s2I_i, s1L_l, s2L_l, s1R_r, s1R_n, s1R_o, s1A_a, cmpc, popn, swt, rf_s, rf_n, cat_i, cat_r, cat_n, cat_l, true_and, and_true, List.length_cons, List.length_nil, Nat.zero_add, Int.reduceToNat, Nat.reduceAdd, Nat.reduceDiv, Nat.reduceMod, Nat.reduceMul, Nat.reduceSub, Nat.reduceLeDiff, Nat.reduceLT, Nat.reduceEqDiff, ↓reduceIte, r_gr_wi, r_gl_wi, r_gk_wi, r_gn_wi, r_wi_eq, r_wi_ne, r_wi_nj, r_gi_wr, r_gl_wr, r_gk_wr, r_gn_wr, r_gr_wa, r_gl_wa, r_gk_wa, r_gn_wa, aa_e, as_e, al_e, u_lt, u_le, u_gt, u_ge, u_lt0, u_le0, u_gt0, u_ge0, Classical.not_not, not_true_eq_false, not_false_eq_true, oi_n, oi_m, n_dec, nI_add, pk_mul, n_sub, n_eq, n_le, n_lt, n_eq0, n_lt0, n_le0, n_0lt, n_0le, n_eqm, m_eqn, n_ltm, n_and, n_or, n_xor, n_shl, n_shr, tb1, tb0, bP_1, bP_0, bP_n0, ix_n, inb_n, u_eq, u_eqm, ma_k M, ma_k1 M, ma_k2 M, ma_k3 M, ma_k12 M, ma_k13 M, ma_k14 M, ma_r2 M, ma_r3 M, ma_r4 M, ma_r5 M, ma_r6 M, ma_r7 M, sl]
            refine hP.1 _ _ s_Co_borneByAll_41 _ _ _ _ _ ?_
            simp (maxSteps := 1000000) (disch := omega) only [g_Co_borneByAll_41, slk, List.map_cons, List.map_nil, List.sum_cons, List.sum_nil, vc_i, vc_r, vc_n, vc_l, vc_o, Nat.add_zero, kO_e, kA_e, hdO_a, eq_self, blk, stp, lg, ls0, lk, ls1, ls2, kI_i, kL_l, kR_r, kR_n, kR_o, s1I_i, s2I_i, s1L_l, s2L_l, s1R_r, s1R_n, s1R_o, s1A_a, cmpc, popn, swt, rf_s, rf_n, cat_i, cat_r, cat_n, cat_l, true_and, and_true, List.length_cons, List.length_nil, Nat.zero_add, Int.reduceToNat, Nat.reduceAdd, Nat.reduceDiv, Nat.reduceMod, Nat.reduceMul, Nat.reduceSub, Nat.reduceLeDiff, Nat.reduceLT, Nat.reduceEqDiff, ↓reduceIte, r_gr_wi, r_gl_wi, r_gk_wi, r_gn_wi, r_wi_eq, r_wi_ne, r_wi_nj, r_gi_wr, r_gl_wr, r_gk_wr, r_gn_wr, r_gr_wa, r_gl_wa, r_gk_wa, r_gn_wa, aa_e, as_e, al_e, u_lt, u_le, u_gt, u_ge, u_lt0, u_le0, u_gt0, u_ge0, Classical.not_not, not_true_eq_false, not_false_eq_true, oi_n, oi_m, n_dec, nI_add, pk_mul, n_sub, n_eq, n_le, n_lt, n_eq0, n_lt0, n_le0, n_0lt, n_0le, n_eqm, m_eqn, n_ltm, n_and, n_or, n_xor, n_shl, n_shr, tb1, tb0, bP_1, bP_0, bP_n0, ix_n, inb_n, u_eq, u_eqm, ma_k M, ma_k1 M, ma_k2 M, ma_k3 M, ma_k12 M, ma_k13 M, ma_k14 M, ma_r2 M, ma_r3 M, ma_r4 M, ma_r5 M, ma_r6 M, ma_r7 M, sl]
            exact ih n2 (by omega) (k + 1) (c + 1) (by omega) (by omega) ea2
          · have q2' : c = i := by
              first | exact q2 | exact Classical.byContradiction q2
            rw [if_pos q2'] at ea2
            refine hP.1 _ _ s_Co_borneByAll_35 _ _ _ _ _ ?_
            simp (maxSteps := 1000000) (disch := omega) only [g_Co_borneByAll_35, slk, List.map_cons, List.map_nil, List.sum_cons, List.sum_nil, vc_i, vc_r, vc_n, vc_l, vc_o, Nat.add_zero, kO_e, kA_e, hdO_a, eq_self, blk, stp, lg, ls0, lk, ls1, ls2, kI_i, kL_l, kR_r, kR_n, kR_o, s1I_i, s2I_i, s1L_l, s2L_l, s1R_r, s1R_n, s1R_o, s1A_a, cmpc, popn, swt, rf_s, rf_n, cat_i, cat_r, cat_n, cat_l, true_and, and_true, List.length_cons, List.length_nil, Nat.zero_add, Int.reduceToNat, Nat.reduceAdd, Nat.reduceDiv, Nat.reduceMod, Nat.reduceMul, Nat.reduceSub, Nat.reduceLeDiff, Nat.reduceLT, Nat.reduceEqDiff, ↓reduceIte, r_gr_wi, r_gl_wi, r_gk_wi, r_gn_wi, r_wi_eq, r_wi_ne, r_wi_nj, r_gi_wr, r_gl_wr, r_gk_wr, r_gn_wr, r_gr_wa, r_gl_wa, r_gk_wa, r_gn_wa, aa_e, as_e, al_e, u_lt, u_le, u_gt, u_ge, u_lt0, u_le0, u_gt0, u_ge0, Classical.not_not, not_true_eq_false, not_false_eq_true, oi_n, oi_m, n_dec, nI_add, pk_mul, n_sub, n_eq, n_le, n_lt, n_eq0, n_lt0, n_le0, n_0lt, n_0le, n_eqm, m_eqn, n_ltm, n_and, n_or, n_xor, n_shl, n_shr, tb1, tb0, bP_1, bP_0, bP_n0, ix_n, inb_n, u_eq, u_eqm, ma_k M, ma_k1 M, ma_k2 M, ma_k3 M, ma_k12 M, ma_k13 M, ma_k14 M, ma_r2 M, ma_r3 M, ma_r4 M, ma_r5 M, ma_r6 M, ma_r7 M, sl]
            exact lfI r_Co_borneByAll ea2.symm rfl
  refine hP.1 _ _ s_Co_borneByAll_0 _ _ _ _ _ ?_
  simp (maxSteps := 1000000) (disch := omega) only [g_Co_borneByAll_0, slk, List.map_cons, List.map_nil, List.sum_cons, List.sum_nil, vc_i, vc_r, vc_n, vc_l, vc_o, Nat.add_zero, kO_e, kA_e, hdO_a, eq_self, blk, stp, lg, ls0, lk, ls1, ls2, kI_i, kL_l, kR_r, kR_n, kR_o, s1I_i, s2I_i, s1L_l, s2L_l, s1R_r, s1R_n, s1R_o, s1A_a, cmpc, popn, swt, rf_s, rf_n, cat_i, cat_r, cat_n, cat_l, true_and, and_true, List.length_cons, List.length_nil, Nat.zero_add, Int.reduceToNat, Nat.reduceAdd, Nat.reduceDiv, Nat.reduceMod, Nat.reduceMul, Nat.reduceSub, Nat.reduceLeDiff, Nat.reduceLT, Nat.reduceEqDiff, ↓reduceIte, r_gr_wi, r_gl_wi, r_gk_wi, r_gn_wi, r_wi_eq, r_wi_ne, r_wi_nj, r_gi_wr, r_gl_wr, r_gk_wr, r_gn_wr, r_gr_wa, r_gl_wa, r_gk_wa, r_gn_wa, aa_e, as_e, al_e, u_lt, u_le, u_gt, u_ge, u_lt0, u_le0, u_gt0, u_ge0, Classical.not_not, not_true_eq_false, not_false_eq_true, oi_n, oi_m, n_dec, nI_add, pk_mul, n_sub, n_eq, n_le, n_lt, n_eq0, n_lt0, n_le0, n_0lt, n_0le, n_eqm, m_eqn, n_ltm, n_and, n_or, n_xor, n_shl, n_shr, tb1, tb0, bP_1, bP_0, bP_n0, ix_n, inb_n, u_eq, u_eqm, ma_k M, ma_k1 M, ma_k2 M, ma_k3 M, ma_k12 M, ma_k13 M, ma_k14 M, ma_r2 M, ma_r3 M, ma_r4 M, ma_r5 M, ma_r6 M, ma_r7 M]
  exact loop _ 0 0 (Nat.zero_add _) (Nat.le_refl _) rfl
theorem c_Co_lossOfAll (W : RH h s) (I : PI s) {h2 : AH} (L : Lay h2) (C : CC h2 s) (hm : m < s 107 19) (M : MA h2 b (s 112 m)) (V : MV h2 s m b) {x : Nat} (hx : isPr s m x) : Mz (d + 3) 165 [.ref 59, .ref b, .int (nI (slN (s 112 m) (s 113 m) x))] h2 0 0 (Rt (nI (hlN s m x (sn s))) h2) := by
  have b4 := rs_p W hm
  have b6 := sn_le W
  have slb := sl_lt b4.2.1 (s 113 m) x
  refine mz_in (l := [some (.ref 59), some (.ref b), some (.int (nI (slN (s 112 m) (s 113 m) x))), none, none]) mk_Co_lossOfAll n_Co_lossOfAll rfl l_Co_lossOfAll rfl (Nat.le_of_ble_eq_true rfl) fun P hP => ?_
  have le : ∀ k, hlN s m x k ≤ k * 45 := fun k => smN_le (fun j => lossN_le W hm) k
  have loop : ∀ n k, k + n = sn s → P 5 [some (.ref 59), some (.ref b), some (.int (nI (slN (s 112 m) (s 113 m) x))), some (.int (nI (hlN s m x k))), some (.int (nI k))] [] h2 0 0 := by
    intro n
    induction n using Nat.strongRecOn with
    | _ n ih =>
      intro k hk
      have lek := le k
      refine hP.1 _ _ s_Co_lossOfAll_5 _ _ _ _ _ ?_
      simp (maxSteps := 1000000) (disch := omega) only [g_Co_lossOfAll_5, slk, List.map_cons, List.map_nil, List.sum_cons, List.sum_nil, vc_i, vc_r, vc_n, vc_l, vc_o, Nat.add_zero, kO_e, kA_e, hdO_a, eq_self, blk, stp, lg, ls0, lk, ls1, ls2, kI_i, kL_l, kR_r, kR_n, kR_o, s1I_i, s2I_i, s1L_l, s2L_l, s1R_r, s1R_n, s1R_o, s1A_a, cmpc, popn, swt, rf_s, rf_n, cat_i, cat_r, cat_n, cat_l, true_and, and_true, List.length_cons, List.length_nil, Nat.zero_add, Int.reduceToNat, Nat.reduceAdd, Nat.reduceDiv, Nat.reduceMod, Nat.reduceMul, Nat.reduceSub, Nat.reduceLeDiff, Nat.reduceLT, Nat.reduceEqDiff, ↓reduceIte, r_gr_wi, r_gl_wi, r_gk_wi, r_gn_wi, r_wi_eq, r_wi_ne, r_wi_nj, r_gi_wr, r_gl_wr, r_gk_wr, r_gn_wr, r_gr_wa, r_gl_wa, r_gk_wa, r_gn_wa, aa_e, as_e, al_e, u_lt, u_le, u_gt, u_ge, u_lt0, u_le0, u_gt0, u_ge0, Classical.not_not, not_true_eq_false, not_false_eq_true, oi_n, oi_m, n_dec, nI_add, pk_mul, n_sub, n_eq, n_le, n_lt, n_eq0, n_lt0, n_le0, n_0lt, n_0le, n_eqm, m_eqn, n_ltm, n_and, n_or, n_xor, n_shl, n_shr, tb1, tb0, bP_1, bP_0, bP_n0, ix_n, inb_n, u_eq, u_eqm, k59 L, f59_0 L, k21 L, ma_k M, C.1.2.1]
      refine ⟨fun hc => ?_, fun hc => ?_⟩
      · have e1 : k = sn s := by omega
        rw [e1]
        refine hP.1 _ _ s_Co_lossOfAll_41 _ _ _ _ _ ?_
        simp (maxSteps := 1000000) (disch := omega) only [g_Co_lossOfAll_41, slk, List.map_cons, List.map_nil, List.sum_cons, List.sum_nil, vc_i, vc_r, vc_n, vc_l, vc_o, Nat.add_zero, kO_e, kA_e, hdO_a, eq_self, blk, stp, lg, ls0, lk, ls1, ls2, kI_i, kL_l, kR_r, kR_n, kR_o, s1I_i, s2I_i, s1L_l, s2L_l, s1R_r, s1R_n, s1R_o, s1A_a, cmpc, popn, swt, rf_s, rf_n, cat_i, cat_r, cat_n, cat_l, true_and, and_true, List.length_cons, List.length_nil, Nat.zero_add, Int.reduceToNat, Nat.reduceAdd, Nat.reduceDiv, Nat.reduceMod, Nat.reduceMul, Nat.reduceSub, Nat.reduceLeDiff, Nat.reduceLT, Nat.reduceEqDiff, ↓reduceIte, r_gr_wi, r_gl_wi, r_gk_wi, r_gn_wi, r_wi_eq, r_wi_ne, r_wi_nj, r_gi_wr, r_gl_wr, r_gk_wr, r_gn_wr, r_gr_wa, r_gl_wa, r_gk_wa, r_gn_wa, aa_e, as_e, al_e, u_lt, u_le, u_gt, u_ge, u_lt0, u_le0, u_gt0, u_ge0, Classical.not_not, not_true_eq_false, not_false_eq_true, oi_n, oi_m, n_dec, nI_add, pk_mul, n_sub, n_eq, n_le, n_lt, n_eq0, n_lt0, n_le0, n_0lt, n_0le, n_eqm, m_eqn, n_ltm, n_and, n_or, n_xor, n_shl, n_shr, tb1, tb0, bP_1, bP_0, bP_n0, ix_n, inb_n, u_eq, u_eqm, ma_k M, C.1.2.1]
        exact lfI r_Co_lossOfAll rfl rfl
      · have hk2 : k < sn s := by omega
        have so := seat_of W hk2
        have s8 := sd_lt W hk2
        have ll := lossN_le W hm (e := sd s k) (x := x)
        refine hP.1 _ _ s_Co_lossOfAll_17 _ _ _ _ _ ?_
        simp (maxSteps := 1000000) (disch := omega) only [g_Co_lossOfAll_17, slk, List.map_cons, List.map_nil, List.sum_cons, List.sum_nil, vc_i, vc_r, vc_n, vc_l, vc_o, Nat.add_zero, kO_e, kA_e, hdO_a, eq_self, blk, stp, lg, ls0, lk, ls1, ls2, kI_i, kL_l, kR_r, kR_n, kR_o, s1I_i, s2I_i, s1L_l, s2L_l, s1R_r, s1R_n, s1R_o, s1A_a, cmpc, popn, swt, rf_s, rf_n, cat_i, cat_r, cat_n, cat_l, true_and, and_true, List.length_cons, List.length_nil, Nat.zero_add, Int.reduceToNat, Nat.reduceAdd, Nat.reduceDiv, Nat.reduceMod, Nat.reduceMul, Nat.reduceSub, Nat.reduceLeDiff, Nat.reduceLT, Nat.reduceEqDiff, ↓reduceIte, r_gr_wi, r_gl_wi, r_gk_wi, r_gn_wi, r_wi_eq, r_wi_ne, r_wi_nj, r_gi_wr, r_gl_wr, r_gk_wr, r_gn_wr, r_gr_wa, r_gl_wa, r_gk_wa, r_gn_wa, aa_e, as_e, al_e, u_lt, u_le, u_gt, u_ge, u_lt0, u_le0, u_gt0, u_ge0, Classical.not_not, not_true_eq_false, not_false_eq_true, oi_n, oi_m, n_dec, nI_add, pk_mul, n_sub, n_eq, n_le, n_lt, n_eq0, n_lt0, n_le0, n_0lt, n_0le, n_eqm, m_eqn, n_ltm, n_and, n_or, n_xor, n_shl, n_shr, tb1, tb0, bP_1, bP_0, bP_n0, ix_n, inb_n, u_eq, u_eqm, k59 L, f59_0 L, k21 L, f21_3 L, k33 L, ma_k M, C.1.2.1, C.2.2.2.1 k hk2]
        refine wc (c_Ma_lossOf W M V hm s8 slb) ⟨by omega, by omega⟩ ?_
        simp (maxSteps := 1000000) (disch := omega) only [slk, List.map_cons, List.map_nil, List.sum_cons, List.sum_nil, vc_i, vc_r, vc_n, vc_l, vc_o, Nat.add_zero, kO_e, kA_e, hdO_a, eq_self, blk, stp, lg, ls0, lk, ls1, ls2, kI_i, kL_l, kR_r, kR_n, kR_o, s1I_i, s2I_i, s1L_l, s2L_l, s1R_r, s1R_n, s1R_o, s1A_a, cmpc, popn, swt, rf_s, rf_n, cat_i, cat_r, cat_n, cat_l, true_and, and_true, List.length_cons, List.length_nil, Nat.zero_add, Int.reduceToNat, Nat.reduceAdd, Nat.reduceDiv, Nat.reduceMod, Nat.reduceMul, Nat.reduceSub, Nat.reduceLeDiff, Nat.reduceLT, Nat.reduceEqDiff, ↓reduceIte, r_gr_wi, r_gl_wi, r_gk_wi, r_gn_wi, r_wi_eq, r_wi_ne, r_wi_nj, r_gi_wr, r_gl_wr, r_gk_wr, r_gn_wr, r_gr_wa, r_gl_wa, r_gk_wa, r_gn_wa, aa_e, as_e, al_e, u_lt, u_le, u_gt, u_ge, u_lt0, u_le0, u_gt0, u_ge0, Classical.not_not, not_true_eq_false, not_false_eq_true, oi_n, oi_m, n_dec, nI_add, pk_mul, n_sub, n_eq, n_le, n_lt, n_eq0, n_lt0, n_le0, n_0lt, n_0le, n_eqm, m_eqn, n_ltm, n_and, n_or, n_xor, n_shl, n_shr, tb1, tb0, bP_1, bP_0, bP_n0, ix_n, inb_n, u_eq, u_eqm, k59 L, f59_0 L, k21 L, f21_3 L, k33 L, ma_k M, C.1.2.1, C.2.2.2.1 k hk2]
        rw [la_loss W I so.1 hm hx]
        exact ih (n - 1) (by omega) (k + 1) (by omega)
  refine hP.1 _ _ s_Co_lossOfAll_0 _ _ _ _ _ ?_
  simp (maxSteps := 1000000) (disch := omega) only [g_Co_lossOfAll_0, slk, List.map_cons, List.map_nil, List.sum_cons, List.sum_nil, vc_i, vc_r, vc_n, vc_l, vc_o, Nat.add_zero, kO_e, kA_e, hdO_a, eq_self, blk, stp, lg, ls0, lk, ls1, ls2, kI_i, kL_l, kR_r, kR_n, kR_o, s1I_i, s2I_i, s1L_l, s2L_l, s1R_r, s1R_n, s1R_o, s1A_a, cmpc, popn, swt, rf_s, rf_n, cat_i, cat_r, cat_n, cat_l, true_and, and_true, List.length_cons, List.length_nil, Nat.zero_add, Int.reduceToNat, Nat.reduceAdd, Nat.reduceDiv, Nat.reduceMod, Nat.reduceMul, Nat.reduceSub, Nat.reduceLeDiff, Nat.reduceLT, Nat.reduceEqDiff, ↓reduceIte, r_gr_wi, r_gl_wi, r_gk_wi, r_gn_wi, r_wi_eq, r_wi_ne, r_wi_nj, r_gi_wr, r_gl_wr, r_gk_wr, r_gn_wr, r_gr_wa, r_gl_wa, r_gk_wa, r_gn_wa, aa_e, as_e, al_e, u_lt, u_le, u_gt, u_ge, u_lt0, u_le0, u_gt0, u_ge0, Classical.not_not, not_true_eq_false, not_false_eq_true, oi_n, oi_m, n_dec, nI_add, pk_mul, n_sub, n_eq, n_le, n_lt, n_eq0, n_lt0, n_le0, n_0lt, n_0le, n_eqm, m_eqn, n_ltm, n_and, n_or, n_xor, n_shl, n_shr, tb1, tb0, bP_1, bP_0, bP_n0, ix_n, inb_n, u_eq, u_eqm, ma_k M, C.1.2.1]
  exact loop _ 0 (Nat.zero_add _)
end
/-! hands -/
theorem pc_or : ∀ a, a < 256 → ∀ b, b < 8 → a.testBit b = false → pc (a ||| 1 <<< b) = pc a + 1 := by decide +kernel
theorem hb_bd {h : AH} {s : St} (W : RH h s) (g0 : s 107 22 = 0) {m x : Nat} (hm : m < s 107 19) (hx : isPr s m x) : hbN s m x (sn s) = bdN s m x := by
  refine Nat.eq_of_testBit_eq fun e => Bool.eq_iff_iff.mpr ?_
  rw [bd_bit W g0 hm hx]
  unfold hbN
  rw [orN_bit]
  constructor
  · rintro ⟨j, hj, q⟩
    by_cases z : brP s (sd s j) m x (evN s m)
    · rw [nif_t z, Nat.zero_testBit] at q
      cases q
    · rw [nif_f z, bit_one] at q
      subst q
      exact ⟨seat_of W hj, z⟩
  · rintro ⟨q1, q2⟩
    obtain ⟨j, hj, rfl⟩ := seat_ix W q1
    refine ⟨j, hj, ?_⟩
    rw [nif_f q2, bit_one]
theorem sd_inj {s : St} {i j : Nat} (hi : i < sn s) (hj : j < sn s) (e : sd s i = sd s j) : i = j := by
  have nd := seU_nd s 80
  unfold sd at e
  unfold sn at hi hj
  rw [List.getD_eq_getElem?_getD, List.getD_eq_getElem?_getD, List.getElem?_eq_getElem hi, List.getElem?_eq_getElem hj] at e
  have pw := List.pairwise_iff_getElem.mp nd
  rcases Nat.lt_trichotomy i j with z | z | z
  · exact absurd e (pw i j hi hj z)
  · exact z
  · exact absurd e.symm (pw j i hj hi z)
theorem hb_hn {h : AH} {s : St} (W : RH h s) {m x : Nat} : ∀ k, k ≤ sn s → pc (hbN s m x k) + hnN s m x k = k := by
  intro k
  induction k with
  | zero =>
    intro _
    show pc 0 + 0 = 0
    decide
  | succ k ih =>
    intro hk
    have i := ih (by omega)
    have s8 := sd_lt W (j := k) (by omega)
    have hl : hbN s m x k < 2 ^ 8 := orN_lt fun j hj => by
      by_cases z : brP s (sd s j) m x (evN s m)
      · rw [nif_t z]
        decide
      · rw [nif_f z]
        exact one_lt (sd_lt W (by omega))
    show pc (hbN s m x k ||| nif (brP s (sd s k) m x (evN s m)) 0 (1 <<< sd s k)) + (hnN s m x k + nif (brP s (sd s k) m x (evN s m)) 1 0) = k + 1
    by_cases z : brP s (sd s k) m x (evN s m)
    · rw [nif_t z, nif_t z, Nat.or_zero]
      omega
    · rw [nif_f z, nif_f z, pc_or _ hl _ s8]
      · omega
      · cases q : (hbN s m x k).testBit (sd s k) with
        | false => rfl
        | true =>
          unfold hbN at q
          rw [orN_bit] at q
          obtain ⟨j, hj, q2⟩ := q
          by_cases z2 : brP s (sd s j) m x (evN s m)
          · rw [nif_t z2, Nat.zero_testBit] at q2
            cases q2
          · rw [nif_f z2, bit_one] at q2
            have := sd_inj (by omega) (by omega) q2
            omega
theorem m_ltn {a : Nat} (ha : a < 2147483648) : ((-1 : Int32) < nI a) = True := by
  refine eq_true ?_
  have h1 := nI_toInt (n := a) (by omega)
  rw [Int32.lt_iff_toInt_lt, h1]
  have : (-1 : Int32).toInt = -1 := by decide
  omega
section
variable {h : AH} {s : St} {d m b : Nat}
theorem c_Co_mostHands (W : RH h s) (I : PI s) (g0 : s 107 22 = 0) {h2 : AH} (L : Lay h2) (C : CC h2 s) (hm : m < s 107 19) (M : MA h2 b (s 112 m)) (V : MV h2 s m b) : Mz (d + 4) 164 [.ref 59, .ref b] h2 0 0 (Rt (nI (o0 id (hndR s m (1 <<< (2 * s 112 m))))) h2) := by
  have b4 := rs_p W hm
  have b5 := sh_1024 b4.2.1
  have b6 := sn_le W
  refine mz_in (l := [some (.ref 59), some (.ref b), none, none, none, none, none, none, none]) mk_Co_mostHands n_Co_mostHands rfl l_Co_mostHands rfl (Nat.le_of_ble_eq_true rfl) fun P hP => ?_
  have hl8 : ∀ x, hlN s m x (sn s) ≤ 8 * 45 := fun x => Nat.le_trans (smN_le (fun j => lossN_le W hm) _) (Nat.mul_le_mul_right _ b6)
  have hn8 : ∀ x, hnN s m x (sn s) ≤ 8 := fun x => by have := hb_hn W (m := m) (x := x) (sn s) (Nat.le_refl _); omega
  have loop : ∀ n k (x6 x7 x8 : Option Value), k + n = 1 <<< (2 * s 112 m) → P 10 [some (.ref 59), some (.ref b), some (.int (nI (o0 id (hndR s m k)))), some (.int (oN ((hndR s m k).map (fun x => hnN s m x (sn s))))), some (.int (nI (o0 (fun x => hlN s m x (sn s)) (hndR s m k)))), some (.int (nI k)), x6, x7, x8] [] h2 0 0 := by
    intro n
    induction n using Nat.strongRecOn with
    | _ n ih =>
      intro k x6 x7 x8 hk
      have hq : ∀ q, hndR s m k = some q → q < k := fun q e => (mnG_lt e).1
      refine hP.1 _ _ s_Co_mostHands_10 _ _ _ _ _ ?_
      simp (maxSteps := 1000000) (disch := omega) only [g_Co_mostHands_10, slk, List.map_cons, List.map_nil, List.sum_cons, List.sum_nil, vc_i, vc_r, vc_n, vc_l, vc_o, Nat.add_zero, kO_e, kA_e, hdO_a, eq_self, blk, stp, lg, ls0, lk, ls1, ls2, kI_i, kL_l, kR_r, kR_n, kR_o, s1I_i, s2I_i, s1L_l, s2L_l, s1R_r, s1R_n, s1R_o, s1A_a, cmpc, popn, swt, rf_s, rf_n, cat_i, cat_r, cat_n, cat_l, true_and, and_true, List.length_cons, List.length_nil, Nat.zero_add, Int.reduceToNat, Nat.reduceAdd, Nat.reduceDiv, Nat.reduceMod, Nat.reduceMul, Nat.reduceSub, Nat.reduceLeDiff, Nat.reduceLT, Nat.reduceEqDiff, ↓reduceIte, r_gr_wi, r_gl_wi, r_gk_wi, r_gn_wi, r_wi_eq, r_wi_ne, r_wi_nj, r_gi_wr, r_gl_wr, r_gk_wr, r_gn_wr, r_gr_wa, r_gl_wa, r_gk_wa, r_gn_wa, aa_e, as_e, al_e, u_lt, u_le, u_gt, u_ge, u_lt0, u_le0, u_gt0, u_ge0, Classical.not_not, not_true_eq_false, not_false_eq_true, oi_n, oi_m, n_dec, nI_add, pk_mul, n_sub, n_eq, n_le, n_lt, n_eq0, n_lt0, n_le0, n_0lt, n_0le, n_eqm, m_eqn, n_ltm, n_and, n_or, n_xor, n_shl, n_shr, tb1, tb0, bP_1, bP_0, bP_n0, ix_n, inb_n, u_eq, u_eqm, ma_k M, ma_k1 M, ma_k2 M, ma_k3 M, ma_k12 M, ma_k13 M, ma_k14 M, ma_r2 M, ma_r3 M, ma_r4 M, ma_r5 M, ma_r6 M, ma_r7 M]
      refine ⟨fun hc => ?_, fun hc => ?_⟩
      · have e1 : k = 1 <<< (2 * s 112 m) := by omega
        rw [e1]
        refine hP.1 _ _ s_Co_mostHands_114 _ _ _ _ _ ?_
        simp (maxSteps := 1000000) (disch := omega) only [g_Co_mostHands_114, slk, List.map_cons, List.map_nil, List.sum_cons, List.sum_nil, vc_i, vc_r, vc_n, vc_l, vc_o, Nat.add_zero, kO_e, kA_e, hdO_a, eq_self, blk, stp, lg, ls0, lk, ls1, ls2, kI_i, kL_l, kR_r, kR_n, kR_o, s1I_i, s2I_i, s1L_l, s2L_l, s1R_r, s1R_n, s1R_o, s1A_a, cmpc, popn, swt, rf_s, rf_n, cat_i, cat_r, cat_n, cat_l, true_and, and_true, List.length_cons, List.length_nil, Nat.zero_add, Int.reduceToNat, Nat.reduceAdd, Nat.reduceDiv, Nat.reduceMod, Nat.reduceMul, Nat.reduceSub, Nat.reduceLeDiff, Nat.reduceLT, Nat.reduceEqDiff, ↓reduceIte, r_gr_wi, r_gl_wi, r_gk_wi, r_gn_wi, r_wi_eq, r_wi_ne, r_wi_nj, r_gi_wr, r_gl_wr, r_gk_wr, r_gn_wr, r_gr_wa, r_gl_wa, r_gk_wa, r_gn_wa, aa_e, as_e, al_e, u_lt, u_le, u_gt, u_ge, u_lt0, u_le0, u_gt0, u_ge0, Classical.not_not, not_true_eq_false, not_false_eq_true, oi_n, oi_m, n_dec, nI_add, pk_mul, n_sub, n_eq, n_le, n_lt, n_eq0, n_lt0, n_le0, n_0lt, n_0le, n_eqm, m_eqn, n_ltm, n_and, n_or, n_xor, n_shl, n_shr, tb1, tb0, bP_1, bP_0, bP_n0, ix_n, inb_n, u_eq, u_eqm, ma_k M, ma_k1 M, ma_k2 M, ma_k3 M, ma_k12 M, ma_k13 M, ma_k14 M, ma_r2 M, ma_r3 M, ma_r4 M, ma_r5 M, ma_r6 M, ma_r7 M]
        exact lfI r_Co_mostHands rfl rfl
      · have hk2 : k < 1 <<< (2 * s 112 m) := by omega
        have sl := V.2.1 k hk2
        have slb := sl_lt b4.2.1 (s 113 m) k
        have ps := pr_sl (x := k) b4.1 hk2
        have nx : ∀ (v2 : Nat) (v3 : Int32) (v4 : Nat) x6 x7 x8, v2 = o0 id (hndR s m (k + 1)) → v3 = oN ((hndR s m (k + 1)).map (fun x => hnN s m x (sn s))) → v4 = o0 (fun x => hlN s m x (sn s)) (hndR s m (k + 1)) → P 108 [some (.ref 59), some (.ref b), some (.int (nI v2)), some (.int (v3)), some (.int (nI v4)), some (.int (nI k)), x6, x7, x8] [] h2 0 0 := by
          intro v2 v3 v4 x6 x7 x8 e2 e3 e4
          refine hP.1 _ _ s_Co_mostHands_108 _ _ _ _ _ ?_
          simp (maxSteps := 1000000) (disch := omega) only [g_Co_mostHands_108, slk, List.map_cons, List.map_nil, List.sum_cons, List.sum_nil, vc_i, vc_r, vc_n, vc_l, vc_o, Nat.add_zero, kO_e, kA_e, hdO_a, eq_self, blk, stp, lg, ls0, lk, ls1, ls2, kI_i, kL_l, kR_r, kR_n, kR_o, s1I_i, s2I_i, s1L_l, s2L_l, s1R_r, s1R_n, s1R_o, s1A_a, cmpc, popn, swt, rf_s, rf_n, cat_i, cat_r, cat_n, cat_l, true_and, and_true, List.length_cons, List.length_nil, Nat.zero_add, Int.reduceToNat, Nat.reduceAdd, Nat.reduceDiv, Nat.reduceMod, Nat.reduceMul, Nat.reduceSub, Nat.reduceLeDiff, Nat.reduceLT, Nat.reduceEqDiff, ↓reduceIte, r_gr_wi, r_gl_wi, r_gk_wi, r_gn_wi, r_wi_eq, r_wi_ne, r_wi_nj, r_gi_wr, r_gl_wr, r_gk_wr, r_gn_wr, r_gr_wa, r_gl_wa, r_gk_wa, r_gn_wa, aa_e, as_e, al_e, u_lt, u_le, u_gt, u_ge, u_lt0, u_le0, u_gt0, u_ge0, Classical.not_not, not_true_eq_false, not_false_eq_true, oi_n, oi_m, n_dec, nI_add, pk_mul, n_sub, n_eq, n_le, n_lt, n_eq0, n_lt0, n_le0, n_0lt, n_0le, n_eqm, m_eqn, n_ltm, n_and, n_or, n_xor, n_shl, n_shr, tb1, tb0, bP_1, bP_0, bP_n0, ix_n, inb_n, u_eq, u_eqm, ma_k M, ma_k1 M, ma_k2 M, ma_k3 M, ma_k12 M, ma_k13 M, ma_k14 M, ma_r2 M, ma_r3 M, ma_r4 M, ma_r5 M, ma_r6 M, ma_r7 M]
          rw [e2, e3, e4]
          exact ih (n - 1) (by omega) (k + 1) _ _ _ (by omega)
        have no : ¬ (isPr s m k ∧ ∀ q, hndR s m k = some q → hnN s m q (sn s) < hnN s m k (sn s) ∨ (hnN s m k (sn s) = hnN s m q (sn s) ∧ hlN s m k (sn s) < hlN s m q (sn s))) → hndR s m (k + 1) = hndR s m k := fun z => mnG_f z
        have ye : (isPr s m k ∧ ∀ q, hndR s m k = some q → hnN s m q (sn s) < hnN s m k (sn s) ∨ (hnN s m k (sn s) = hnN s m q (sn s) ∧ hlN s m k (sn s) < hlN s m q (sn s))) → hndR s m (k + 1) = some k := fun z => mnG_t z
        refine hP.1 _ _ s_Co_mostHands_20 _ _ _ _ _ ?_
        simp (maxSteps := 1000000) (disch := omega) only [g_Co_mostHands_20, slk, List.map_cons, List.map_nil, List.sum_cons, List.sum_nil, vc_i, vc_r, vc_n, vc_l, vc_o, Nat.add_zero, kO_e, kA_e, hdO_a, eq_self, blk, stp, lg, ls0, lk, ls1, ls2, kI_i, kL_l, kR_r, kR_n, kR_o, s1I_i, s2I_i, s1L_l, s2L_l, s1R_r, s1R_n, s1R_o, s1A_a, cmpc, popn, swt, rf_s, rf_n, cat_i, cat_r, cat_n, cat_l, true_and, and_true, List.length_cons, List.length_nil, Nat.zero_add, Int.reduceToNat, Nat.reduceAdd, Nat.reduceDiv, Nat.reduceMod, Nat.reduceMul, Nat.reduceSub, Nat.reduceLeDiff, Nat.reduceLT, Nat.reduceEqDiff, ↓reduceIte, r_gr_wi, r_gl_wi, r_gk_wi, r_gn_wi, r_wi_eq, r_wi_ne, r_wi_nj, r_gi_wr, r_gl_wr, r_gk_wr, r_gn_wr, r_gr_wa, r_gl_wa, r_gk_wa, r_gn_wa, aa_e, as_e, al_e, u_lt, u_le, u_gt, u_ge, u_lt0, u_le0, u_gt0, u_ge0, Classical.not_not, not_true_eq_false, not_false_eq_true, oi_n, oi_m, n_dec, nI_add, pk_mul, n_sub, n_eq, n_le, n_lt, n_eq0, n_lt0, n_le0, n_0lt, n_0le, n_eqm, m_eqn, n_ltm, n_and, n_or, n_xor, n_shl, n_shr, tb1, tb0, bP_1, bP_0, bP_n0, ix_n, inb_n, u_eq, u_eqm, ma_k M, ma_k1 M, ma_k2 M, ma_k3 M, ma_k12 M, ma_k13 M, ma_k14 M, ma_r2 M, ma_r3 M, ma_r4 M, ma_r5 M, ma_r6 M, ma_r7 M, sl]
        refine ⟨fun q => ?_, fun q => ?_⟩
        · have pr := ps.mpr q
          have ub := bd_lt W m k
          have eb := hb_bd W g0 hm pr
          have hh := hb_hn W (m := m) (x := k) (sn s) (Nat.le_refl _)
          rw [eb] at hh
          have ll := hl8 k
          have hn := hn8 k
          have e9 : unB s m (slN (s 112 m) (s 113 m) k) &&& thoN s = bdN s m k := rfl
          have es : sn s - pc (bdN s m k) = hnN s m k (sn s) := by omega
          refine hP.1 _ _ s_Co_mostHands_38 _ _ _ _ _ ?_
          simp (maxSteps := 1000000) (disch := omega) only [g_Co_mostHands_38, slk, List.map_cons, List.map_nil, List.sum_cons, List.sum_nil, vc_i, vc_r, vc_n, vc_l, vc_o, Nat.add_zero, kO_e, kA_e, hdO_a, eq_self, blk, stp, lg, ls0, lk, ls1, ls2, kI_i, kL_l, kR_r, kR_n, kR_o, s1I_i, s2I_i, s1L_l, s2L_l, s1R_r, s1R_n, s1R_o, s1A_a, cmpc, popn, swt, rf_s, rf_n, cat_i, cat_r, cat_n, cat_l, true_and, and_true, List.length_cons, List.length_nil, Nat.zero_add, Int.reduceToNat, Nat.reduceAdd, Nat.reduceDiv, Nat.reduceMod, Nat.reduceMul, Nat.reduceSub, Nat.reduceLeDiff, Nat.reduceLT, Nat.reduceEqDiff, ↓reduceIte, r_gr_wi, r_gl_wi, r_gk_wi, r_gn_wi, r_wi_eq, r_wi_ne, r_wi_nj, r_gi_wr, r_gl_wr, r_gk_wr, r_gn_wr, r_gr_wa, r_gl_wa, r_gk_wa, r_gn_wa, aa_e, as_e, al_e, u_lt, u_le, u_gt, u_ge, u_lt0, u_le0, u_gt0, u_ge0, Classical.not_not, not_true_eq_false, not_false_eq_true, oi_n, oi_m, n_dec, nI_add, pk_mul, n_sub, n_eq, n_le, n_lt, n_eq0, n_lt0, n_le0, n_0lt, n_0le, n_eqm, m_eqn, n_ltm, n_and, n_or, n_xor, n_shl, n_shr, tb1, tb0, bP_1, bP_0, bP_n0, ix_n, inb_n, u_eq, u_eqm, k59 L, f59_0 L, k21 L, ma_k M, ma_k1 M, ma_k2 M, ma_k3 M, ma_k12 M, ma_k13 M, ma_k14 M, ma_r2 M, ma_r3 M, ma_r4 M, ma_r5 M, ma_r6 M, ma_r7 M, C.1.2.1, C.1.2.2, e9, es]
          refine wc (c_Ma_unable W M V slb) ⟨by omega, by omega⟩ ?_
          simp (maxSteps := 1000000) (disch := omega) only [slk, List.map_cons, List.map_nil, List.sum_cons, List.sum_nil, vc_i, vc_r, vc_n, vc_l, vc_o, Nat.add_zero, kO_e, kA_e, hdO_a, eq_self, blk, stp, lg, ls0, lk, ls1, ls2, kI_i, kL_l, kR_r, kR_n, kR_o, s1I_i, s2I_i, s1L_l, s2L_l, s1R_r, s1R_n, s1R_o, s1A_a, cmpc, popn, swt, rf_s, rf_n, cat_i, cat_r, cat_n, cat_l, true_and, and_true, List.length_cons, List.length_nil, Nat.zero_add, Int.reduceToNat, Nat.reduceAdd, Nat.reduceDiv, Nat.reduceMod, Nat.reduceMul, Nat.reduceSub, Nat.reduceLeDiff, Nat.reduceLT, Nat.reduceEqDiff, ↓reduceIte, r_gr_wi, r_gl_wi, r_gk_wi, r_gn_wi, r_wi_eq, r_wi_ne, r_wi_nj, r_gi_wr, r_gl_wr, r_gk_wr, r_gn_wr, r_gr_wa, r_gl_wa, r_gk_wa, r_gn_wa, aa_e, as_e, al_e, u_lt, u_le, u_gt, u_ge, u_lt0, u_le0, u_gt0, u_ge0, Classical.not_not, not_true_eq_false, not_false_eq_true, oi_n, oi_m, n_dec, nI_add, pk_mul, n_sub, n_eq, n_le, n_lt, n_eq0, n_lt0, n_le0, n_0lt, n_0le, n_eqm, m_eqn, n_ltm, n_and, n_or, n_xor, n_shl, n_shr, tb1, tb0, bP_1, bP_0, bP_n0, ix_n, inb_n, u_eq, u_eqm, k59 L, f59_0 L, k21 L, ma_k M, ma_k1 M, ma_k2 M, ma_k3 M, ma_k12 M, ma_k13 M, ma_k14 M, ma_r2 M, ma_r3 M, ma_r4 M, ma_r5 M, ma_r6 M, ma_r7 M, C.1.2.1, C.1.2.2, e9, es]
          refine wc (c_In_bitCount (x := bdN s m k) ub) ⟨by omega, by omega⟩ ?_
          simp (maxSteps := 1000000) (disch := omega) only [slk, List.map_cons, List.map_nil, List.sum_cons, List.sum_nil, vc_i, vc_r, vc_n, vc_l, vc_o, Nat.add_zero, kO_e, kA_e, hdO_a, eq_self, blk, stp, lg, ls0, lk, ls1, ls2, kI_i, kL_l, kR_r, kR_n, kR_o, s1I_i, s2I_i, s1L_l, s2L_l, s1R_r, s1R_n, s1R_o, s1A_a, cmpc, popn, swt, rf_s, rf_n, cat_i, cat_r, cat_n, cat_l, true_and, and_true, List.length_cons, List.length_nil, Nat.zero_add, Int.reduceToNat, Nat.reduceAdd, Nat.reduceDiv, Nat.reduceMod, Nat.reduceMul, Nat.reduceSub, Nat.reduceLeDiff, Nat.reduceLT, Nat.reduceEqDiff, ↓reduceIte, r_gr_wi, r_gl_wi, r_gk_wi, r_gn_wi, r_wi_eq, r_wi_ne, r_wi_nj, r_gi_wr, r_gl_wr, r_gk_wr, r_gn_wr, r_gr_wa, r_gl_wa, r_gk_wa, r_gn_wa, aa_e, as_e, al_e, u_lt, u_le, u_gt, u_ge, u_lt0, u_le0, u_gt0, u_ge0, Classical.not_not, not_true_eq_false, not_false_eq_true, oi_n, oi_m, n_dec, nI_add, pk_mul, n_sub, n_eq, n_le, n_lt, n_eq0, n_lt0, n_le0, n_0lt, n_0le, n_eqm, m_eqn, n_ltm, n_and, n_or, n_xor, n_shl, n_shr, tb1, tb0, bP_1, bP_0, bP_n0, ix_n, inb_n, u_eq, u_eqm, k59 L, f59_0 L, k21 L, ma_k M, ma_k1 M, ma_k2 M, ma_k3 M, ma_k12 M, ma_k13 M, ma_k14 M, ma_r2 M, ma_r3 M, ma_r4 M, ma_r5 M, ma_r6 M, ma_r7 M, C.1.2.1, C.1.2.2, e9, es]
          refine hP.1 _ _ s_Co_mostHands_63 _ _ _ _ _ ?_
          simp (maxSteps := 1000000) (disch := omega) only [g_Co_mostHands_63, slk, List.map_cons, List.map_nil, List.sum_cons, List.sum_nil, vc_i, vc_r, vc_n, vc_l, vc_o, Nat.add_zero, kO_e, kA_e, hdO_a, eq_self, blk, stp, lg, ls0, lk, ls1, ls2, kI_i, kL_l, kR_r, kR_n, kR_o, s1I_i, s2I_i, s1L_l, s2L_l, s1R_r, s1R_n, s1R_o, s1A_a, cmpc, popn, swt, rf_s, rf_n, cat_i, cat_r, cat_n, cat_l, true_and, and_true, List.length_cons, List.length_nil, Nat.zero_add, Int.reduceToNat, Nat.reduceAdd, Nat.reduceDiv, Nat.reduceMod, Nat.reduceMul, Nat.reduceSub, Nat.reduceLeDiff, Nat.reduceLT, Nat.reduceEqDiff, ↓reduceIte, r_gr_wi, r_gl_wi, r_gk_wi, r_gn_wi, r_wi_eq, r_wi_ne, r_wi_nj, r_gi_wr, r_gl_wr, r_gk_wr, r_gn_wr, r_gr_wa, r_gl_wa, r_gk_wa, r_gn_wa, aa_e, as_e, al_e, u_lt, u_le, u_gt, u_ge, u_lt0, u_le0, u_gt0, u_ge0, Classical.not_not, not_true_eq_false, not_false_eq_true, oi_n, oi_m, n_dec, nI_add, pk_mul, n_sub, n_eq, n_le, n_lt, n_eq0, n_lt0, n_le0, n_0lt, n_0le, n_eqm, m_eqn, n_ltm, n_and, n_or, n_xor, n_shl, n_shr, tb1, tb0, bP_1, bP_0, bP_n0, ix_n, inb_n, u_eq, u_eqm, ma_k M, ma_k1 M, ma_k2 M, ma_k3 M, ma_k12 M, ma_k13 M, ma_k14 M, ma_r2 M, ma_r3 M, ma_r4 M, ma_r5 M, ma_r6 M, ma_r7 M, C.1.2.1, C.1.2.2, e9, es]
          refine ⟨fun z => absurd z q, fun _ => ?_⟩
          cases eh : hndR s m k with
          | none =>
            have y := ye ⟨pr, fun q2 e2 => by rw [eh] at e2; cases e2⟩
            have e3 : oN ((none : Option Nat).map (fun x => hnN s m x (sn s))) = -1 := rfl
            rw [e3]
            refine hP.1 _ _ s_Co_mostHands_70 _ _ _ _ _ ?_
            simp (maxSteps := 1000000) (disch := omega) only [g_Co_mostHands_70, slk, List.map_cons, List.map_nil, List.sum_cons, List.sum_nil, vc_i, vc_r, vc_n, vc_l, vc_o, Nat.add_zero, kO_e, kA_e, hdO_a, eq_self, blk, stp, lg, ls0, lk, ls1, ls2, kI_i, kL_l, kR_r, kR_n, kR_o, s1I_i, s2I_i, s1L_l, s2L_l, s1R_r, s1R_n, s1R_o, s1A_a, cmpc, popn, swt, rf_s, rf_n, cat_i, cat_r, cat_n, cat_l, true_and, and_true, List.length_cons, List.length_nil, Nat.zero_add, Int.reduceToNat, Nat.reduceAdd, Nat.reduceDiv, Nat.reduceMod, Nat.reduceMul, Nat.reduceSub, Nat.reduceLeDiff, Nat.reduceLT, Nat.reduceEqDiff, ↓reduceIte, r_gr_wi, r_gl_wi, r_gk_wi, r_gn_wi, r_wi_eq, r_wi_ne, r_wi_nj, r_gi_wr, r_gl_wr, r_gk_wr, r_gn_wr, r_gr_wa, r_gl_wa, r_gk_wa, r_gn_wa, aa_e, as_e, al_e, u_lt, u_le, u_gt, u_ge, u_lt0, u_le0, u_gt0, u_ge0, Classical.not_not, not_true_eq_false, not_false_eq_true, oi_n, oi_m, n_dec, nI_add, pk_mul, n_sub, n_eq, n_le, n_lt, n_eq0, n_lt0, n_le0, n_0lt, n_0le, n_eqm, m_eqn, n_ltm, n_and, n_or, n_xor, n_shl, n_shr, tb1, tb0, bP_1, bP_0, bP_n0, ix_n, inb_n, u_eq, u_eqm, ma_k M, ma_k1 M, ma_k2 M, ma_k3 M, ma_k12 M, ma_k13 M, ma_k14 M, ma_r2 M, ma_r3 M, ma_r4 M, ma_r5 M, ma_r6 M, ma_r7 M, m_ltn, n_ltm]
            refine ⟨fun z => by first | exact z.elim | (exfalso; omega), fun _ => ?_⟩
            refine hP.1 _ _ s_Co_mostHands_76 _ _ _ _ _ ?_
            simp (maxSteps := 1000000) (disch := omega) only [g_Co_mostHands_76, slk, List.map_cons, List.map_nil, List.sum_cons, List.sum_nil, vc_i, vc_r, vc_n, vc_l, vc_o, Nat.add_zero, kO_e, kA_e, hdO_a, eq_self, blk, stp, lg, ls0, lk, ls1, ls2, kI_i, kL_l, kR_r, kR_n, kR_o, s1I_i, s2I_i, s1L_l, s2L_l, s1R_r, s1R_n, s1R_o, s1A_a, cmpc, popn, swt, rf_s, rf_n, cat_i, cat_r, cat_n, cat_l, true_and, and_true, List.length_cons, List.length_nil, Nat.zero_add, Int.reduceToNat, Nat.reduceAdd, Nat.reduceDiv, Nat.reduceMod, Nat.reduceMul, Nat.reduceSub, Nat.reduceLeDiff, Nat.reduceLT, Nat.reduceEqDiff, ↓reduceIte, r_gr_wi, r_gl_wi, r_gk_wi, r_gn_wi, r_wi_eq, r_wi_ne, r_wi_nj, r_gi_wr, r_gl_wr, r_gk_wr, r_gn_wr, r_gr_wa, r_gl_wa, r_gk_wa, r_gn_wa, aa_e, as_e, al_e, u_lt, u_le, u_gt, u_ge, u_lt0, u_le0, u_gt0, u_ge0, Classical.not_not, not_true_eq_false, not_false_eq_true, oi_n, oi_m, n_dec, nI_add, pk_mul, n_sub, n_eq, n_le, n_lt, n_eq0, n_lt0, n_le0, n_0lt, n_0le, n_eqm, m_eqn, n_ltm, n_and, n_or, n_xor, n_shl, n_shr, tb1, tb0, bP_1, bP_0, bP_n0, ix_n, inb_n, u_eq, u_eqm, k59 L, ma_k M, ma_k1 M, ma_k2 M, ma_k3 M, ma_k12 M, ma_k13 M, ma_k14 M, ma_r2 M, ma_r3 M, ma_r4 M, ma_r5 M, ma_r6 M, ma_r7 M, m_ltn, n_ltm]
            refine wc (c_Co_lossOfAll W I L C hm M V pr) ⟨by omega, by omega⟩ ?_
            simp (maxSteps := 1000000) (disch := omega) only [slk, List.map_cons, List.map_nil, List.sum_cons, List.sum_nil, vc_i, vc_r, vc_n, vc_l, vc_o, Nat.add_zero, kO_e, kA_e, hdO_a, eq_self, blk, stp, lg, ls0, lk, ls1, ls2, kI_i, kL_l, kR_r, kR_n, kR_o, s1I_i, s2I_i, s1L_l, s2L_l, s1R_r, s1R_n, s1R_o, s1A_a, cmpc, popn, swt, rf_s, rf_n, cat_i, cat_r, cat_n, cat_l, true_and, and_true, List.length_cons, List.length_nil, Nat.zero_add, Int.reduceToNat, Nat.reduceAdd, Nat.reduceDiv, Nat.reduceMod, Nat.reduceMul, Nat.reduceSub, Nat.reduceLeDiff, Nat.reduceLT, Nat.reduceEqDiff, ↓reduceIte, r_gr_wi, r_gl_wi, r_gk_wi, r_gn_wi, r_wi_eq, r_wi_ne, r_wi_nj, r_gi_wr, r_gl_wr, r_gk_wr, r_gn_wr, r_gr_wa, r_gl_wa, r_gk_wa, r_gn_wa, aa_e, as_e, al_e, u_lt, u_le, u_gt, u_ge, u_lt0, u_le0, u_gt0, u_ge0, Classical.not_not, not_true_eq_false, not_false_eq_true, oi_n, oi_m, n_dec, nI_add, pk_mul, n_sub, n_eq, n_le, n_lt, n_eq0, n_lt0, n_le0, n_0lt, n_0le, n_eqm, m_eqn, n_ltm, n_and, n_or, n_xor, n_shl, n_shr, tb1, tb0, bP_1, bP_0, bP_n0, ix_n, inb_n, u_eq, u_eqm, k59 L, ma_k M, ma_k1 M, ma_k2 M, ma_k3 M, ma_k12 M, ma_k13 M, ma_k14 M, ma_r2 M, ma_r3 M, ma_r4 M, ma_r5 M, ma_r6 M, ma_r7 M, m_ltn, n_ltm]
            refine ⟨fun _ => ?_, fun z => by first | exact z.elim | exact absurd trivial z⟩
            refine hP.1 _ _ s_Co_mostHands_98 _ _ _ _ _ ?_
            simp (maxSteps := 1000000) (disch := omega) only [g_Co_mostHands_98, slk, List.map_cons, List.map_nil, List.sum_cons, List.sum_nil, vc_i, vc_r, vc_n, vc_l, vc_o, Nat.add_zero, kO_e, kA_e, hdO_a, eq_self, blk, stp, lg, ls0, lk, ls1, ls2, kI_i, kL_l, kR_r, kR_n, kR_o, s1I_i, s2I_i, s1L_l, s2L_l, s1R_r, s1R_n, s1R_o, s1A_a, cmpc, popn, swt, rf_s, rf_n, cat_i, cat_r, cat_n, cat_l, true_and, and_true, List.length_cons, List.length_nil, Nat.zero_add, Int.reduceToNat, Nat.reduceAdd, Nat.reduceDiv, Nat.reduceMod, Nat.reduceMul, Nat.reduceSub, Nat.reduceLeDiff, Nat.reduceLT, Nat.reduceEqDiff, ↓reduceIte, r_gr_wi, r_gl_wi, r_gk_wi, r_gn_wi, r_wi_eq, r_wi_ne, r_wi_nj, r_gi_wr, r_gl_wr, r_gk_wr, r_gn_wr, r_gr_wa, r_gl_wa, r_gk_wa, r_gn_wa, aa_e, as_e, al_e, u_lt, u_le, u_gt, u_ge, u_lt0, u_le0, u_gt0, u_ge0, Classical.not_not, not_true_eq_false, not_false_eq_true, oi_n, oi_m, n_dec, nI_add, pk_mul, n_sub, n_eq, n_le, n_lt, n_eq0, n_lt0, n_le0, n_0lt, n_0le, n_eqm, m_eqn, n_ltm, n_and, n_or, n_xor, n_shl, n_shr, tb1, tb0, bP_1, bP_0, bP_n0, ix_n, inb_n, u_eq, u_eqm, ma_k M, ma_k1 M, ma_k2 M, ma_k3 M, ma_k12 M, ma_k13 M, ma_k14 M, ma_r2 M, ma_r3 M, ma_r4 M, ma_r5 M, ma_r6 M, ma_r7 M, m_ltn, n_ltm]
            exact nx _ _ _ _ _ _ (by rw [y]; rfl) (by rw [y]; rfl) (by rw [y]; rfl)
          | some q2 =>
            have l2 := hl8 q2
            have n2 := hn8 q2
            have e3 : oN ((some q2).map (fun x => hnN s m x (sn s))) = nI (hnN s m q2 (sn s)) := rfl
            have e4 : o0 (fun x => hlN s m x (sn s)) (some q2) = hlN s m q2 (sn s) := rfl
            have stay : ¬ (hnN s m q2 (sn s) < hnN s m k (sn s) ∨ (hnN s m k (sn s) = hnN s m q2 (sn s) ∧ hlN s m k (sn s) < hlN s m q2 (sn s))) → ∀ x8, P 108 [some (.ref 59), some (.ref b), some (.int (nI (o0 id (some q2)))), some (.int (oN ((some q2).map (fun x => hnN s m x (sn s))))), some (.int (nI (o0 (fun x => hlN s m x (sn s)) (some q2)))), some (.int (nI k)), some (.int (nI (slN (s 112 m) (s 113 m) k))), some (.int (nI (hnN s m k (sn s)))), x8] [] h2 0 0 := by
              intro z x8
              have y := no (fun w => z (w.2 q2 eh))
              exact nx _ _ _ _ _ _ (by rw [y, eh]) (by rw [y, eh]) (by rw [y, eh])
            have go : (hnN s m q2 (sn s) < hnN s m k (sn s) ∨ (hnN s m k (sn s) = hnN s m q2 (sn s) ∧ hlN s m k (sn s) < hlN s m q2 (sn s))) → P 98 [some (.ref 59), some (.ref b), some (.int (nI (o0 id (some q2)))), some (.int (nI (hnN s m q2 (sn s)))), some (.int (nI (hlN s m q2 (sn s)))), some (.int (nI k)), some (.int (nI (slN (s 112 m) (s 113 m) k))), some (.int (nI (hnN s m k (sn s)))), some (.int (nI (hlN s m k (sn s))))] [] h2 0 0 := by
              intro z
              have y := ye ⟨pr, fun q3 e5 => by rw [eh] at e5; cases e5; exact z⟩
              refine hP.1 _ _ s_Co_mostHands_98 _ _ _ _ _ ?_
              simp (maxSteps := 1000000) (disch := omega) only [g_Co_mostHands_98, slk, List.map_cons, List.map_nil, List.sum_cons, List.sum_nil, vc_i, vc_r, vc_n, vc_l, vc_o, Nat.add_zero, kO_e, kA_e, hdO_a, eq_self, blk, stp, lg, ls0, lk, ls1, ls2, kI_i, kL_l, kR_r, kR_n, kR_o, s1I_i, s2I_i, s1L_l, s2L_l, s1R_r, s1R_n, s1R_o, s1A_a, cmpc, popn, swt, rf_s, rf_n, cat_i, cat_r, cat_n, cat_l, true_and, and_true, List.length_cons, List.length_nil, Nat.zero_add, Int.reduceToNat, Nat.reduceAdd, Nat.reduceDiv, Nat.reduceMod, Nat.reduceMul, Nat.reduceSub, Nat.reduceLeDiff, Nat.reduceLT, Nat.reduceEqDiff, ↓reduceIte, r_gr_wi, r_gl_wi, r_gk_wi, r_gn_wi, r_wi_eq, r_wi_ne, r_wi_nj, r_gi_wr, r_gl_wr, r_gk_wr, r_gn_wr, r_gr_wa, r_gl_wa, r_gk_wa, r_gn_wa, aa_e, as_e, al_e, u_lt, u_le, u_gt, u_ge, u_lt0, u_le0, u_gt0, u_ge0, Classical.not_not, not_true_eq_false, not_false_eq_true, oi_n, oi_m, n_dec, nI_add, pk_mul, n_sub, n_eq, n_le, n_lt, n_eq0, n_lt0, n_le0, n_0lt, n_0le, n_eqm, m_eqn, n_ltm, n_and, n_or, n_xor, n_shl, n_shr, tb1, tb0, bP_1, bP_0, bP_n0, ix_n, inb_n, u_eq, u_eqm, ma_k M, ma_k1 M, ma_k2 M, ma_k3 M, ma_k12 M, ma_k13 M, ma_k14 M, ma_r2 M, ma_r3 M, ma_r4 M, ma_r5 M, ma_r6 M, ma_r7 M, C.1.2.1, C.1.2.2, e9, es]
              exact nx _ _ _ _ _ _ (by rw [y]; rfl) (by rw [y]; rfl) (by rw [y]; rfl)
            rw [e3, e4] at stay ⊢
            refine hP.1 _ _ s_Co_mostHands_70 _ _ _ _ _ ?_
            simp (maxSteps := 1000000) (disch := omega) only [g_Co_mostHands_70, slk, List.map_cons, List.map_nil, List.sum_cons, List.sum_nil, vc_i, vc_r, vc_n, vc_l, vc_o, Nat.add_zero, kO_e, kA_e, hdO_a, eq_self, blk, stp, lg, ls0, lk, ls1, ls2, kI_i, kL_l, kR_r, kR_n, kR_o, s1I_i, s2I_i, s1L_l, s2L_l, s1R_r, s1R_n, s1R_o, s1A_a, cmpc, popn, swt, rf_s, rf_n, cat_i, cat_r, cat_n, cat_l, true_and, and_true, List.length_cons, List.length_nil, Nat.zero_add, Int.reduceToNat, Nat.reduceAdd, Nat.reduceDiv, Nat.reduceMod, Nat.reduceMul, Nat.reduceSub, Nat.reduceLeDiff, Nat.reduceLT, Nat.reduceEqDiff, ↓reduceIte, r_gr_wi, r_gl_wi, r_gk_wi, r_gn_wi, r_wi_eq, r_wi_ne, r_wi_nj, r_gi_wr, r_gl_wr, r_gk_wr, r_gn_wr, r_gr_wa, r_gl_wa, r_gk_wa, r_gn_wa, aa_e, as_e, al_e, u_lt, u_le, u_gt, u_ge, u_lt0, u_le0, u_gt0, u_ge0, Classical.not_not, not_true_eq_false, not_false_eq_true, oi_n, oi_m, n_dec, nI_add, pk_mul, n_sub, n_eq, n_le, n_lt, n_eq0, n_lt0, n_le0, n_0lt, n_0le, n_eqm, m_eqn, n_ltm, n_and, n_or, n_xor, n_shl, n_shr, tb1, tb0, bP_1, bP_0, bP_n0, ix_n, inb_n, u_eq, u_eqm, ma_k M, ma_k1 M, ma_k2 M, ma_k3 M, ma_k12 M, ma_k13 M, ma_k14 M, ma_r2 M, ma_r3 M, ma_r4 M, ma_r5 M, ma_r6 M, ma_r7 M]
            refine ⟨fun z => stay (by omega) _, fun z => ?_⟩
            refine hP.1 _ _ s_Co_mostHands_76 _ _ _ _ _ ?_
            simp (maxSteps := 1000000) (disch := omega) only [g_Co_mostHands_76, slk, List.map_cons, List.map_nil, List.sum_cons, List.sum_nil, vc_i, vc_r, vc_n, vc_l, vc_o, Nat.add_zero, kO_e, kA_e, hdO_a, eq_self, blk, stp, lg, ls0, lk, ls1, ls2, kI_i, kL_l, kR_r, kR_n, kR_o, s1I_i, s2I_i, s1L_l, s2L_l, s1R_r, s1R_n, s1R_o, s1A_a, cmpc, popn, swt, rf_s, rf_n, cat_i, cat_r, cat_n, cat_l, true_and, and_true, List.length_cons, List.length_nil, Nat.zero_add, Int.reduceToNat, Nat.reduceAdd, Nat.reduceDiv, Nat.reduceMod, Nat.reduceMul, Nat.reduceSub, Nat.reduceLeDiff, Nat.reduceLT, Nat.reduceEqDiff, ↓reduceIte, r_gr_wi, r_gl_wi, r_gk_wi, r_gn_wi, r_wi_eq, r_wi_ne, r_wi_nj, r_gi_wr, r_gl_wr, r_gk_wr, r_gn_wr, r_gr_wa, r_gl_wa, r_gk_wa, r_gn_wa, aa_e, as_e, al_e, u_lt, u_le, u_gt, u_ge, u_lt0, u_le0, u_gt0, u_ge0, Classical.not_not, not_true_eq_false, not_false_eq_true, oi_n, oi_m, n_dec, nI_add, pk_mul, n_sub, n_eq, n_le, n_lt, n_eq0, n_lt0, n_le0, n_0lt, n_0le, n_eqm, m_eqn, n_ltm, n_and, n_or, n_xor, n_shl, n_shr, tb1, tb0, bP_1, bP_0, bP_n0, ix_n, inb_n, u_eq, u_eqm, k59 L, ma_k M, ma_k1 M, ma_k2 M, ma_k3 M, ma_k12 M, ma_k13 M, ma_k14 M, ma_r2 M, ma_r3 M, ma_r4 M, ma_r5 M, ma_r6 M, ma_r7 M]
            refine wc (c_Co_lossOfAll W I L C hm M V pr) ⟨by omega, by omega⟩ ?_
            simp (maxSteps := 1000000) (disch := omega) only [slk, List.map_cons, List.map_nil, List.sum_cons, List.sum_nil, vc_i, vc_r, vc_n, vc_l, vc_o, Nat.add_zero, kO_e, kA_e, hdO_a, eq_self, blk, stp, lg, ls0, lk, ls1, ls2, kI_i, kL_l, kR_r, kR_n, kR_o, s1I_i, s2I_i, s1L_l, s2L_l, s1R_r, s1R_n, s1R_o, s1A_a, cmpc, popn, swt, rf_s, rf_n, cat_i, cat_r, cat_n, cat_l, true_and, and_true, List.length_cons, List.length_nil, Nat.zero_add, Int.reduceToNat, Nat.reduceAdd, Nat.reduceDiv, Nat.reduceMod, Nat.reduceMul, Nat.reduceSub, Nat.reduceLeDiff, Nat.reduceLT, Nat.reduceEqDiff, ↓reduceIte, r_gr_wi, r_gl_wi, r_gk_wi, r_gn_wi, r_wi_eq, r_wi_ne, r_wi_nj, r_gi_wr, r_gl_wr, r_gk_wr, r_gn_wr, r_gr_wa, r_gl_wa, r_gk_wa, r_gn_wa, aa_e, as_e, al_e, u_lt, u_le, u_gt, u_ge, u_lt0, u_le0, u_gt0, u_ge0, Classical.not_not, not_true_eq_false, not_false_eq_true, oi_n, oi_m, n_dec, nI_add, pk_mul, n_sub, n_eq, n_le, n_lt, n_eq0, n_lt0, n_le0, n_0lt, n_0le, n_eqm, m_eqn, n_ltm, n_and, n_or, n_xor, n_shl, n_shr, tb1, tb0, bP_1, bP_0, bP_n0, ix_n, inb_n, u_eq, u_eqm, k59 L, ma_k M, ma_k1 M, ma_k2 M, ma_k3 M, ma_k12 M, ma_k13 M, ma_k14 M, ma_r2 M, ma_r3 M, ma_r4 M, ma_r5 M, ma_r6 M, ma_r7 M]
            refine ⟨fun z2 => go (Or.inl z2), fun z2 => ?_⟩
            refine hP.1 _ _ s_Co_mostHands_91 _ _ _ _ _ ?_
            simp (maxSteps := 1000000) (disch := omega) only [g_Co_mostHands_91, slk, List.map_cons, List.map_nil, List.sum_cons, List.sum_nil, vc_i, vc_r, vc_n, vc_l, vc_o, Nat.add_zero, kO_e, kA_e, hdO_a, eq_self, blk, stp, lg, ls0, lk, ls1, ls2, kI_i, kL_l, kR_r, kR_n, kR_o, s1I_i, s2I_i, s1L_l, s2L_l, s1R_r, s1R_n, s1R_o, s1A_a, cmpc, popn, swt, rf_s, rf_n, cat_i, cat_r, cat_n, cat_l, true_and, and_true, List.length_cons, List.length_nil, Nat.zero_add, Int.reduceToNat, Nat.reduceAdd, Nat.reduceDiv, Nat.reduceMod, Nat.reduceMul, Nat.reduceSub, Nat.reduceLeDiff, Nat.reduceLT, Nat.reduceEqDiff, ↓reduceIte, r_gr_wi, r_gl_wi, r_gk_wi, r_gn_wi, r_wi_eq, r_wi_ne, r_wi_nj, r_gi_wr, r_gl_wr, r_gk_wr, r_gn_wr, r_gr_wa, r_gl_wa, r_gk_wa, r_gn_wa, aa_e, as_e, al_e, u_lt, u_le, u_gt, u_ge, u_lt0, u_le0, u_gt0, u_ge0, Classical.not_not, not_true_eq_false, not_false_eq_true, oi_n, oi_m, n_dec, nI_add, pk_mul, n_sub, n_eq, n_le, n_lt, n_eq0, n_lt0, n_le0, n_0lt, n_0le, n_eqm, m_eqn, n_ltm, n_and, n_or, n_xor, n_shl, n_shr, tb1, tb0, bP_1, bP_0, bP_n0, ix_n, inb_n, u_eq, u_eqm, ma_k M, ma_k1 M, ma_k2 M, ma_k3 M, ma_k12 M, ma_k13 M, ma_k14 M, ma_r2 M, ma_r3 M, ma_r4 M, ma_r5 M, ma_r6 M, ma_r7 M]
            refine ⟨fun z3 => stay (by omega) _, fun z3 => go (Or.inr ⟨by omega, by omega⟩)⟩
        · have q' : slN (s 112 m) (s 113 m) k = 0 := by
            first | exact q | exact Classical.byContradiction q
          have y := no (fun z => ps.mp z.1 q')
          refine hP.1 _ _ s_Co_mostHands_34 _ _ _ _ _ ?_
          simp (maxSteps := 1000000) (disch := omega) only [g_Co_mostHands_34, slk, List.map_cons, List.map_nil, List.sum_cons, List.sum_nil, vc_i, vc_r, vc_n, vc_l, vc_o, Nat.add_zero, kO_e, kA_e, hdO_a, eq_self, blk, stp, lg, ls0, lk, ls1, ls2, kI_i, kL_l, kR_r, kR_n, kR_o, s1I_i, s2I_i, s1L_l, s2L_l, s1R_r, s1R_n, s1R_o, s1A_a, cmpc, popn, swt, rf_s, rf_n, cat_i, cat_r, cat_n, cat_l, true_and, and_true, List.length_cons, List.length_nil, Nat.zero_add, Int.reduceToNat, Nat.reduceAdd, Nat.reduceDiv, Nat.reduceMod, Nat.reduceMul, Nat.reduceSub, Nat.reduceLeDiff, Nat.reduceLT, Nat.reduceEqDiff, ↓reduceIte, r_gr_wi, r_gl_wi, r_gk_wi, r_gn_wi, r_wi_eq, r_wi_ne, r_wi_nj, r_gi_wr, r_gl_wr, r_gk_wr, r_gn_wr, r_gr_wa, r_gl_wa, r_gk_wa, r_gn_wa, aa_e, as_e, al_e, u_lt, u_le, u_gt, u_ge, u_lt0, u_le0, u_gt0, u_ge0, Classical.not_not, not_true_eq_false, not_false_eq_true, oi_n, oi_m, n_dec, nI_add, pk_mul, n_sub, n_eq, n_le, n_lt, n_eq0, n_lt0, n_le0, n_0lt, n_0le, n_eqm, m_eqn, n_ltm, n_and, n_or, n_xor, n_shl, n_shr, tb1, tb0, bP_1, bP_0, bP_n0, ix_n, inb_n, u_eq, u_eqm, ma_k M, ma_k1 M, ma_k2 M, ma_k3 M, ma_k12 M, ma_k13 M, ma_k14 M, ma_r2 M, ma_r3 M, ma_r4 M, ma_r5 M, ma_r6 M, ma_r7 M, sl]
          refine hP.1 _ _ s_Co_mostHands_63 _ _ _ _ _ ?_
          simp (maxSteps := 1000000) (disch := omega) only [g_Co_mostHands_63, slk, List.map_cons, List.map_nil, List.sum_cons, List.sum_nil, vc_i, vc_r, vc_n, vc_l, vc_o, Nat.add_zero, kO_e, kA_e, hdO_a, eq_self, blk, stp, lg, ls0, lk, ls1, ls2, kI_i, kL_l, kR_r, kR_n, kR_o, s1I_i, s2I_i, s1L_l, s2L_l, s1R_r, s1R_n, s1R_o, s1A_a, cmpc, popn, swt, rf_s, rf_n, cat_i, cat_r, cat_n, cat_l, true_and, and_true, List.length_cons, List.length_nil, Nat.zero_add, Int.reduceToNat, Nat.reduceAdd, Nat.reduceDiv, Nat.reduceMod, Nat.reduceMul, Nat.reduceSub, Nat.reduceLeDiff, Nat.reduceLT, Nat.reduceEqDiff, ↓reduceIte, r_gr_wi, r_gl_wi, r_gk_wi, r_gn_wi, r_wi_eq, r_wi_ne, r_wi_nj, r_gi_wr, r_gl_wr, r_gk_wr, r_gn_wr, r_gr_wa, r_gl_wa, r_gk_wa, r_gn_wa, aa_e, as_e, al_e, u_lt, u_le, u_gt, u_ge, u_lt0, u_le0, u_gt0, u_ge0, Classical.not_not, not_true_eq_false, not_false_eq_true, oi_n, oi_m, n_dec, nI_add, pk_mul, n_sub, n_eq, n_le, n_lt, n_eq0, n_lt0, n_le0, n_0lt, n_0le, n_eqm, m_eqn, n_ltm, n_and, n_or, n_xor, n_shl, n_shr, tb1, tb0, bP_1, bP_0, bP_n0, ix_n, inb_n, u_eq, u_eqm, ma_k M, ma_k1 M, ma_k2 M, ma_k3 M, ma_k12 M, ma_k13 M, ma_k14 M, ma_r2 M, ma_r3 M, ma_r4 M, ma_r5 M, ma_r6 M, ma_r7 M, sl]
          refine ⟨fun _ => ?_, fun z => absurd q' z⟩
          exact nx _ _ _ _ _ _ (by rw [y]) (by rw [y]) (by rw [y])
  refine hP.1 _ _ s_Co_mostHands_0 _ _ _ _ _ ?_
  simp (maxSteps := 1000000) (disch := omega) only [g_Co_mostHands_0, slk, List.map_cons, List.map_nil, List.sum_cons, List.sum_nil, vc_i, vc_r, vc_n, vc_l, vc_o, Nat.add_zero, kO_e, kA_e, hdO_a, eq_self, blk, stp, lg, ls0, lk, ls1, ls2, kI_i, kL_l, kR_r, kR_n, kR_o, s1I_i, s2I_i, s1L_l, s2L_l, s1R_r, s1R_n, s1R_o, s1A_a, cmpc, popn, swt, rf_s, rf_n, cat_i, cat_r, cat_n, cat_l, true_and, and_true, List.length_cons, List.length_nil, Nat.zero_add, Int.reduceToNat, Nat.reduceAdd, Nat.reduceDiv, Nat.reduceMod, Nat.reduceMul, Nat.reduceSub, Nat.reduceLeDiff, Nat.reduceLT, Nat.reduceEqDiff, ↓reduceIte, r_gr_wi, r_gl_wi, r_gk_wi, r_gn_wi, r_wi_eq, r_wi_ne, r_wi_nj, r_gi_wr, r_gl_wr, r_gk_wr, r_gn_wr, r_gr_wa, r_gl_wa, r_gk_wa, r_gn_wa, aa_e, as_e, al_e, u_lt, u_le, u_gt, u_ge, u_lt0, u_le0, u_gt0, u_ge0, Classical.not_not, not_true_eq_false, not_false_eq_true, oi_n, oi_m, n_dec, nI_add, pk_mul, n_sub, n_eq, n_le, n_lt, n_eq0, n_lt0, n_le0, n_0lt, n_0le, n_eqm, m_eqn, n_ltm, n_and, n_or, n_xor, n_shl, n_shr, tb1, tb0, bP_1, bP_0, bP_n0, ix_n, inb_n, u_eq, u_eqm, ma_k M, ma_k1 M, ma_k2 M, ma_k3 M, ma_k12 M, ma_k13 M, ma_k14 M, ma_r2 M, ma_r3 M, ma_r4 M, ma_r5 M, ma_r6 M, ma_r7 M]
  exact loop _ 0 none none none (Nat.zero_add _)
end
