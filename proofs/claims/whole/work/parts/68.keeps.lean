/-! ===== the reference: keeping a text ===== -/
theorem by8_by8 (n : Nat) : (by8 n).toInt8.toInt32 = by8 n := by
  unfold by8
  rw [Int8.toInt8_toInt32]
theorem rc_setB {h : AH} {s : St} (C : RC h s) {a k v : Nat} (ha : a = 125 ∨ a = 126) : RC (wi h a k (by8 v)) (uS s a k v) := by
  intro b j hp
  rw [r_gi_wi]
  unfold uS
  by_cases h1 : b = a
  · subst h1
    rw [if_pos rfl, if_pos rfl]
    by_cases h2 : j = k
    · subst h2
      rw [if_pos rfl, if_pos rfl]
      exact (if_pos ha).symm
    · rw [if_neg h2, if_neg h2]
      exact C _ _ hp
  · rw [if_neg h1, if_neg h1]
    exact C _ _ hp
/-- the tape's first i bytes as text k -/
def kpB (s : St) (k i : Nat) : St := fun b j => if b = 126 then (if 160 * k ≤ j ∧ j < 160 * k + i then s 125 (j - 160 * k) else s 126 j) else s b j
theorem kpB_0 (s : St) (k : Nat) : kpB s k 0 = s := by
  funext b j
  unfold kpB
  split
  · rename_i e
    subst e
    rw [if_neg (by omega)]
  · rfl
theorem kpB_s (s : St) (k i : Nat) : uS (kpB s k i) 126 (160 * k + i) (s 125 i) = kpB s k (i + 1) := by
  funext b j
  unfold uS kpB
  by_cases q : b = 126
  · simp only [if_pos q]
    by_cases r : j = 160 * k + i
    · subst r
      rw [if_pos rfl, if_pos (by omega), Nat.add_sub_cancel_left]
    · rw [if_neg r]
      by_cases r2 : 160 * k ≤ j ∧ j < 160 * k + i
      · rw [if_pos r2, if_pos (by omega)]
      · rw [if_neg r2, if_neg (by omega)]
  · simp only [if_neg q]
def keepS (s : St) (k : Nat) : St := uS (uS (kpB s k (s 107 28)) 127 k (s 107 28)) 107 28 0
def keepC (s : St) (k : Nat) (mind : Bool) : Prop := ∃ p cs, txS (txB (keepS s k) k) (s 107 28) (lbs mind) (als mind) = (p, some cs)
theorem rs_kpB {h : AH} {s : St} (W : RH h s) (k : Nat) {i : Nat} (hi : i ≤ s 107 28) : RS (kpB s k i) := by
  obtain ⟨a0, r2, r3, r4, r5, r6, r7, r8, r9, r10, r11, r12, r13, r14, r15⟩ := W.2.2
  refine ⟨a0, r2, r3, r4, r5, r6, r7, r8, r9, r10, r11, ?_, r13, r14, r15⟩
  intro j
  show (if 160 * k ≤ j ∧ j < 160 * k + i then s 125 (j - 160 * k) else s 126 j) ≤ 255
  split
  · exact (r10 _ (by omega)).2
  · exact r12 j
theorem rs_keep {h : AH} {s : St} (W : RH h s) (k : Nat) : RS (keepS s k) := by
  have b1 := rs_l W
  obtain ⟨⟨a1, a2, a3, a4, a5, a6, a7, a8, a9, a10⟩, r2, r3, r4, r5, r6, r7, r8, r9, r10, r11, r12, r13, r14, r15⟩ := rs_kpB W k (Nat.le_refl _)
  refine ⟨⟨a1, a2, a3, Nat.zero_le _, a5, a6, a7, a8, a9, a10⟩, r2, r3, r4, r5, r6, r7, r8, r9, fun j hj => absurd hj (Nat.not_lt_zero _), ?_, r12, r13, r14, r15⟩
  intro j
  show (if j = k then s 107 28 else s 127 j) ≤ 160
  split
  · exact b1
  · exact r11 j
theorem txB_keep {s : St} (hn : s 107 28 ≤ 160) {k p : Nat} (hp : p < s 107 28) : txB (keepS s k) k p = s 125 p := by
  rw [txB_lt (by omega)]
  show (if 160 * k ≤ 160 * k + p ∧ 160 * k + p < 160 * k + s 107 28 then s 125 (160 * k + p - 160 * k) else s 126 (160 * k + p)) = _
  rw [if_pos (by omega), Nat.add_sub_cancel_left]
theorem pg_keep {l : Nat → Int32} {lb : Nat} {h h' : AH} {x : Nat × Option (List Cl)} {r : Option (Option Value)} (p : PG l lb h x r h') : (gi h' 107 34 = -1) = ∃ q cs, x = (q, some cs) := by
  obtain ⟨q, o⟩ := x
  cases o with
  | none =>
    obtain ⟨e, b⟩ := p.2.2.1 q rfl
    rw [e, n_eqm (by omega)]
    refine propext ⟨False.elim, ?_⟩
    rintro ⟨_, _, z⟩
    cases z
  | some cs =>
    rw [(p.2.2.2 q cs rfl).1]
    exact propext ⟨fun _ => ⟨q, cs, rfl⟩, fun _ => rfl⟩
section
variable {h : AH} {s : St} {d : Nat}
theorem c_goKeep (W : RH h s) (K : SK h) (k : Nat) (mind : Bool) : Mz (d + 32) 95 [.ref 107, .ref 125, .int (nI 0), .int (nI (s 107 28)), .int (bP (mind = true)), .int (nI 0)] h 0 0 (PG (gi h 128) 0 h (txS (txB (keepS s k) k) (s 107 28) (lbs mind) (als mind))) :=
  c_R_goThrough W.1 K (fun _ _ => rfl) (by omega) ⟨k125 W.1, by have := rs_l W; omega, by omega⟩ (rs_l W) (by decide) (fun p hp => ⟨by rw [Nat.zero_add, txB_keep (rs_l W) hp]; exact q125 W p, by rw [txB_keep (rs_l W) hp]; exact rs_tape W hp⟩)
theorem c_R_keeps (W : RH h s) (K : SK h) {k : Nat} (hk : k < 16) (mind : Bool) : Mz (d + 33) 97 [.ref 107, .int (nI k), .int (bP (mind = true))] h 0 0 (Pb (bP (keepC s k mind)) (ifS (keepC s k mind) (keepS s k) s) h) := by
  have b1 := rs_l W
  have g := c_goKeep (d := d) W K k mind
  refine mz_in (l := [some (.ref 107), some (.int (nI k)), some (.int (bP (mind = true))), none]) mk_R_keeps n_R_keeps rfl l_R_keeps rfl (Nat.le_of_ble_eq_true rfl) fun P hP => ?_
  have loop : keepC s k mind → ∀ n i H, i + n = s 107 28 → FrR h H → RH H (kpB s k i) → P 27 [some (.ref 107), some (.int (nI k)), some (.int (bP (mind = true))), some (.int (nI i))] [] H 0 0 := by
    intro c n
    induction n using Nat.strongRecOn with
    | _ n ih =>
      intro i H hi F WH
      have e8 : kpB s k i 107 28 = s 107 28 := rfl
      have e5 : kpB s k i 125 i = s 125 i := rfl
      refine hP.1 _ _ s_R_keeps_27 _ _ _ _ _ ?_
      simp (maxSteps := 1000000) (disch := omega) only [g_R_keeps_27, slk, List.map_cons, List.map_nil, List.sum_cons, List.sum_nil, vc_i, vc_r, vc_n, vc_l, vc_o, Nat.add_zero, kO_e, kA_e, hdO_a, eq_self, blk, stp, lg, ls0, lk, ls1, ls2, kI_i, kL_l, kR_r, kR_n, kR_o, s1I_i, s2I_i, s1L_l, s2L_l, s1R_r, s1R_n, s1R_o, s1A_a, cmpc, popn, swt, rf_s, rf_n, cat_i, cat_r, cat_n, cat_l, true_and, and_true, List.length_cons, List.length_nil, Nat.zero_add, Int.reduceToNat, Nat.reduceAdd, Nat.reduceDiv, Nat.reduceMod, Nat.reduceMul, Nat.reduceSub, Nat.reduceLeDiff, Nat.reduceLT, Nat.reduceEqDiff, ↓reduceIte, r_gr_wi, r_gl_wi, r_gk_wi, r_gn_wi, r_wi_eq, r_wi_ne, r_wi_nj, r_gi_wr, r_gl_wr, r_gk_wr, r_gn_wr, r_gr_wa, r_gl_wa, r_gk_wa, r_gn_wa, u_lt, u_le, u_gt, u_ge, u_lt0, u_le0, u_gt0, u_ge0, Classical.not_not, not_true_eq_false, not_false_eq_true, oi_n, oi_m, n_dec, nI_add, pk_mul, n_sub, n_eq, n_le, n_lt, n_eq0, n_lt0, n_le0, n_0lt, n_0le, n_eqm, m_eqn, n_ltm, n_and, n_or, n_xor, n_shl, n_shr, tb1, tb0, bP_1, bP_0, bP_n0, ix_n, inb_n, u_eq, u_eqm, k107 WH.1, q107_28 WH, e8, e5]
      refine ⟨fun hc => ?_, fun hc => ?_⟩
      · have e : i = s 107 28 := by omega
        subst e
        refine hP.1 _ _ s_R_keeps_59 _ _ _ _ _ ?_
        simp (maxSteps := 1000000) (disch := omega) only [g_R_keeps_59, slk, List.map_cons, List.map_nil, List.sum_cons, List.sum_nil, vc_i, vc_r, vc_n, vc_l, vc_o, Nat.add_zero, kO_e, kA_e, hdO_a, eq_self, blk, stp, lg, ls0, lk, ls1, ls2, kI_i, kL_l, kR_r, kR_n, kR_o, s1I_i, s2I_i, s1L_l, s2L_l, s1R_r, s1R_n, s1R_o, s1A_a, cmpc, popn, swt, rf_s, rf_n, cat_i, cat_r, cat_n, cat_l, true_and, and_true, List.length_cons, List.length_nil, Nat.zero_add, Int.reduceToNat, Nat.reduceAdd, Nat.reduceDiv, Nat.reduceMod, Nat.reduceMul, Nat.reduceSub, Nat.reduceLeDiff, Nat.reduceLT, Nat.reduceEqDiff, ↓reduceIte, r_gr_wi, r_gl_wi, r_gk_wi, r_gn_wi, r_wi_eq, r_wi_ne, r_wi_nj, r_gi_wr, r_gl_wr, r_gk_wr, r_gn_wr, r_gr_wa, r_gl_wa, r_gk_wa, r_gn_wa, u_lt, u_le, u_gt, u_ge, u_lt0, u_le0, u_gt0, u_ge0, Classical.not_not, not_true_eq_false, not_false_eq_true, oi_n, oi_m, n_dec, nI_add, pk_mul, n_sub, n_eq, n_le, n_lt, n_eq0, n_lt0, n_le0, n_0lt, n_0le, n_eqm, m_eqn, n_ltm, n_and, n_or, n_xor, n_shl, n_shr, tb1, tb0, bP_1, bP_0, bP_n0, ix_n, inb_n, u_eq, u_eqm, k107 WH.1, f107_25 WH.1, k127 WH.1, q127 WH, q107_28 WH, e8, e5]
        exact lfQT r_R_keeps c WH.1 (rc_set (rc_set WH.2.1 (by decide)) (by decide)) (rs_keep W k) (fr_wi (fr_wi F (by omega)) (by omega))
      · refine hP.1 _ _ s_R_keeps_35 _ _ _ _ _ ?_
        simp (maxSteps := 1000000) (disch := omega) only [g_R_keeps_35, slk, List.map_cons, List.map_nil, List.sum_cons, List.sum_nil, vc_i, vc_r, vc_n, vc_l, vc_o, Nat.add_zero, kO_e, kA_e, hdO_a, eq_self, blk, stp, lg, ls0, lk, ls1, ls2, kI_i, kL_l, kR_r, kR_n, kR_o, s1I_i, s2I_i, s1L_l, s2L_l, s1R_r, s1R_n, s1R_o, s1A_a, cmpc, popn, swt, rf_s, rf_n, cat_i, cat_r, cat_n, cat_l, true_and, and_true, List.length_cons, List.length_nil, Nat.zero_add, Int.reduceToNat, Nat.reduceAdd, Nat.reduceDiv, Nat.reduceMod, Nat.reduceMul, Nat.reduceSub, Nat.reduceLeDiff, Nat.reduceLT, Nat.reduceEqDiff, ↓reduceIte, r_gr_wi, r_gl_wi, r_gk_wi, r_gn_wi, r_wi_eq, r_wi_ne, r_wi_nj, r_gi_wr, r_gl_wr, r_gk_wr, r_gn_wr, r_gr_wa, r_gl_wa, r_gk_wa, r_gn_wa, u_lt, u_le, u_gt, u_ge, u_lt0, u_le0, u_gt0, u_ge0, Classical.not_not, not_true_eq_false, not_false_eq_true, oi_n, oi_m, n_dec, nI_add, pk_mul, n_sub, n_eq, n_le, n_lt, n_eq0, n_lt0, n_le0, n_0lt, n_0le, n_eqm, m_eqn, n_ltm, n_and, n_or, n_xor, n_shl, n_shr, tb1, tb0, bP_1, bP_0, bP_n0, ix_n, inb_n, u_eq, u_eqm, k107 WH.1, f107_24 WH.1, k126 WH.1, q126 WH, f107_23 WH.1, k125 WH.1, q125 WH, e8, e5]
        rw [by8_by8]
        refine ih (n - 1) (by omega) (i + 1) (wi H 126 (160 * k + i) (by8 (s 125 i))) (by omega) (fr_wi F (by omega)) ⟨WH.1, ?_, rs_kpB W k (by omega)⟩
        have := rc_setB (a := 126) (k := 160 * k + i) (v := s 125 i) WH.2.1 (Or.inr rfl)
        rw [kpB_s] at this
        exact this
  refine hP.1 _ _ s_R_keeps_0 _ _ _ _ _ ?_
  simp (maxSteps := 1000000) (disch := omega) only [g_R_keeps_0, slk, List.map_cons, List.map_nil, List.sum_cons, List.sum_nil, vc_i, vc_r, vc_n, vc_l, vc_o, Nat.add_zero, kO_e, kA_e, hdO_a, eq_self, blk, stp, lg, ls0, lk, ls1, ls2, kI_i, kL_l, kR_r, kR_n, kR_o, s1I_i, s2I_i, s1L_l, s2L_l, s1R_r, s1R_n, s1R_o, s1A_a, cmpc, popn, swt, rf_s, rf_n, cat_i, cat_r, cat_n, cat_l, true_and, and_true, List.length_cons, List.length_nil, Nat.zero_add, Int.reduceToNat, Nat.reduceAdd, Nat.reduceDiv, Nat.reduceMod, Nat.reduceMul, Nat.reduceSub, Nat.reduceLeDiff, Nat.reduceLT, Nat.reduceEqDiff, ↓reduceIte, r_gr_wi, r_gl_wi, r_gk_wi, r_gn_wi, r_wi_eq, r_wi_ne, r_wi_nj, r_gi_wr, r_gl_wr, r_gk_wr, r_gn_wr, r_gr_wa, r_gl_wa, r_gk_wa, r_gn_wa, u_lt, u_le, u_gt, u_ge, u_lt0, u_le0, u_gt0, u_ge0, Classical.not_not, not_true_eq_false, not_false_eq_true, oi_n, oi_m, n_dec, nI_add, pk_mul, n_sub, n_eq, n_le, n_lt, n_eq0, n_lt0, n_le0, n_0lt, n_0le, n_eqm, m_eqn, n_ltm, n_and, n_or, n_xor, n_shl, n_shr, tb1, tb0, bP_1, bP_0, bP_n0, ix_n, inb_n, u_eq, u_eqm, k107 W.1, f107_23 W.1, k125 W.1, q125 W, q107_28 W]
  refine ⟨_, _, _, g, ⟨by omega, by omega⟩, ?_⟩
  rintro r H2 p
  have e34 := pg_keep p
  obtain ⟨rfl, F2, -, -⟩ := p
  have W2 := F2.rw W rfl
  simp (maxSteps := 1000000) (disch := omega) only [slk, List.map_cons, List.map_nil, List.sum_cons, List.sum_nil, vc_i, vc_r, vc_n, vc_l, vc_o, Nat.add_zero, kO_e, kA_e, hdO_a, eq_self, blk, stp, lg, ls0, lk, ls1, ls2, kI_i, kL_l, kR_r, kR_n, kR_o, s1I_i, s2I_i, s1L_l, s2L_l, s1R_r, s1R_n, s1R_o, s1A_a, cmpc, popn, swt, rf_s, rf_n, cat_i, cat_r, cat_n, cat_l, true_and, and_true, List.length_cons, List.length_nil, Nat.zero_add, Int.reduceToNat, Nat.reduceAdd, Nat.reduceDiv, Nat.reduceMod, Nat.reduceMul, Nat.reduceSub, Nat.reduceLeDiff, Nat.reduceLT, Nat.reduceEqDiff, ↓reduceIte, r_gr_wi, r_gl_wi, r_gk_wi, r_gn_wi, r_wi_eq, r_wi_ne, r_wi_nj, r_gi_wr, r_gl_wr, r_gk_wr, r_gn_wr, r_gr_wa, r_gl_wa, r_gk_wa, r_gn_wa, u_lt, u_le, u_gt, u_ge, u_lt0, u_le0, u_gt0, u_ge0, Classical.not_not, not_true_eq_false, not_false_eq_true, oi_n, oi_m, n_dec, nI_add, pk_mul, n_sub, n_eq, n_le, n_lt, n_eq0, n_lt0, n_le0, n_0lt, n_0le, n_eqm, m_eqn, n_ltm, n_and, n_or, n_xor, n_shl, n_shr, tb1, tb0, bP_1, bP_0, bP_n0, ix_n, inb_n, u_eq, u_eqm, k107 W.1, f107_23 W.1, k125 W.1, q125 W, q107_28 W, k107 W2.1, e34]
  refine ⟨fun c => ?_, fun c => ?_⟩
  · refine hP.1 _ _ s_R_keeps_25 _ _ _ _ _ ?_
    simp (maxSteps := 1000000) (disch := omega) only [g_R_keeps_25, slk, List.map_cons, List.map_nil, List.sum_cons, List.sum_nil, vc_i, vc_r, vc_n, vc_l, vc_o, Nat.add_zero, kO_e, kA_e, hdO_a, eq_self, blk, stp, lg, ls0, lk, ls1, ls2, kI_i, kL_l, kR_r, kR_n, kR_o, s1I_i, s2I_i, s1L_l, s2L_l, s1R_r, s1R_n, s1R_o, s1A_a, cmpc, popn, swt, rf_s, rf_n, cat_i, cat_r, cat_n, cat_l, true_and, and_true, List.length_cons, List.length_nil, Nat.zero_add, Int.reduceToNat, Nat.reduceAdd, Nat.reduceDiv, Nat.reduceMod, Nat.reduceMul, Nat.reduceSub, Nat.reduceLeDiff, Nat.reduceLT, Nat.reduceEqDiff, ↓reduceIte, r_gr_wi, r_gl_wi, r_gk_wi, r_gn_wi, r_wi_eq, r_wi_ne, r_wi_nj, r_gi_wr, r_gl_wr, r_gk_wr, r_gn_wr, r_gr_wa, r_gl_wa, r_gk_wa, r_gn_wa, u_lt, u_le, u_gt, u_ge, u_lt0, u_le0, u_gt0, u_ge0, Classical.not_not, not_true_eq_false, not_false_eq_true, oi_n, oi_m, n_dec, nI_add, pk_mul, n_sub, n_eq, n_le, n_lt, n_eq0, n_lt0, n_le0, n_0lt, n_0le, n_eqm, m_eqn, n_ltm, n_and, n_or, n_xor, n_shl, n_shr, tb1, tb0, bP_1, bP_0, bP_n0, ix_n, inb_n, u_eq, u_eqm, k107 W2.1, e34]
    exact loop c _ 0 H2 (Nat.zero_add _) (F2.fr rfl) (by rw [kpB_0]; exact W2)
  · refine hP.1 _ _ s_R_keeps_23 _ _ _ _ _ ?_
    simp (maxSteps := 1000000) (disch := omega) only [g_R_keeps_23, slk, List.map_cons, List.map_nil, List.sum_cons, List.sum_nil, vc_i, vc_r, vc_n, vc_l, vc_o, Nat.add_zero, kO_e, kA_e, hdO_a, eq_self, blk, stp, lg, ls0, lk, ls1, ls2, kI_i, kL_l, kR_r, kR_n, kR_o, s1I_i, s2I_i, s1L_l, s2L_l, s1R_r, s1R_n, s1R_o, s1A_a, cmpc, popn, swt, rf_s, rf_n, cat_i, cat_r, cat_n, cat_l, true_and, and_true, List.length_cons, List.length_nil, Nat.zero_add, Int.reduceToNat, Nat.reduceAdd, Nat.reduceDiv, Nat.reduceMod, Nat.reduceMul, Nat.reduceSub, Nat.reduceLeDiff, Nat.reduceLT, Nat.reduceEqDiff, ↓reduceIte, r_gr_wi, r_gl_wi, r_gk_wi, r_gn_wi, r_wi_eq, r_wi_ne, r_wi_nj, r_gi_wr, r_gl_wr, r_gk_wr, r_gn_wr, r_gr_wa, r_gl_wa, r_gk_wa, r_gn_wa, u_lt, u_le, u_gt, u_ge, u_lt0, u_le0, u_gt0, u_ge0, Classical.not_not, not_true_eq_false, not_false_eq_true, oi_n, oi_m, n_dec, nI_add, pk_mul, n_sub, n_eq, n_le, n_lt, n_eq0, n_lt0, n_le0, n_0lt, n_0le, n_eqm, m_eqn, n_ltm, n_and, n_or, n_xor, n_shl, n_shr, tb1, tb0, bP_1, bP_0, bP_n0, ix_n, inb_n, u_eq, u_eqm, k107 W2.1, e34]
    exact lfQF r_R_keeps c W2 (F2.fr rfl)
end
