/-! ===== the reference: a day is over ===== -/
theorem dyS_td {s : St} {ed rs : Nat → Nat} {m day : Nat} {x : Ds} : ∀ k, (dyS s ed rs m day x k).2.2.1 ≤ k := by
  intro k
  induction k with
  | zero => exact Nat.le_refl _
  | succ k ih =>
    show (stD s m day (sd s k) (dyS s ed rs m day x k) _ _).2.2.1 ≤ _
    generalize tuS s ed rs (dyS s ed rs m day x k).1 (dyS s ed rs m day x k).2.1 (sd s k) m day k (dyS s ed rs m day x k).2.2.1 = r
    cases r with
    | none =>
      show (dyS s ed rs m day x k).2.2.1 ≤ _
      omega
    | some q =>
      show (dyS s ed rs m day x k).2.2.1 + 1 ≤ _
      omega
theorem dE_td {h : AH} {s : St} (W : RH h s) {ed rs : Nat → Nat} {m : Nat} {ls : List Lk} (j : Nat) : (dE s ed rs m ls j).2.2.1 ≤ 8 := by
  have h1 := sn_le W
  cases j with
  | zero => exact Nat.zero_le _
  | succ j =>
    have := dyS_td (s := s) (ed := ed) (rs := rs) (m := m) (day := j + 1) (x := dE s ed rs m ls j) (sn s)
    show (dyS s ed rs m (j + 1) (dE s ed rs m ls j) (sn s)).2.2.1 ≤ 8
    omega
section
variable {h : AH} {s : St} {d : Nat}
/-- the day is written down -/
theorem gt_note (W : RH h s) {ed rs : Nat → Nat} {m : Nat} {ls : List Lk} (hm : m < s 107 19)
    {P : Nat → LL → List Value → AH → Nat → Nat → Prop} {res : Option (Option Value) → AH → Prop} (hP : Clo (Mz (d + 35)) 119 0 0 res P) {j : Nat} (hj1 : 1 ≤ j) (hj : j ≤ 30) (lst td : Nat)
    (J : ∀ H, Ft [31, 32, 33, 34, 35, 36, 37, 40, 53, 54, 55, 56, 60] [128, 129, 130, 131, 132, 133, 134, 135, 136, 137, 138, 139, 140, 143] h H → TK H (dE s ed rs m ls j).1 (dE s ed rs m ls j).2.1 → LKs H (dE s ed rs m ls j).2.2.2 → gi H 107 54 = -1 → gi H 107 55 = nI j → (∀ b, 1 ≤ b → b < j + 1 → DK H (wdG s ed rs m ls) (wdF s ed rs m ls) (wdN s ed rs m ls) b) → ∀ x, P 205 [some (.ref 107), some (.int (nI m)), some (.int (nI lst)), some (.int (nI j)), some (.int (nI td)), x] [] H 0 0)
    {H : AH} (F : Ft [31, 32, 33, 34, 35, 36, 37, 40, 53, 54, 55, 56, 60] [128, 129, 130, 131, 132, 133, 134, 135, 136, 137, 138, 139, 140, 143] h H) (T : TK H (dE s ed rs m ls j).1 (dE s ed rs m ls j).2.1) (L1 : LKs H (dE s ed rs m ls j).2.2.2) (e54 : gi H 107 54 = -1) (e55 : gi H 107 55 = nI j) (DD : ∀ b, 1 ≤ b → b < j → DK H (wdG s ed rs m ls) (wdF s ed rs m ls) (wdN s ed rs m ls) b) (x : Nat) : P 141 [some (.ref 107), some (.int (nI m)), some (.int (nI lst)), some (.int (nI j)), some (.int (nI td)), some (.int (nI x))] [] H 0 0 := by
  have dok := dE_ok (ed := ed) (rs := rs) (ls := ls) W hm j hj
  have loop : ∀ n k Hk, k + n = 20 → Fx [] [138, 139, 140] H Hk → gi Hk 138 j = nI (wdG s ed rs m ls j) → (∀ i, i < k → gi Hk 139 (20 * j + i) = nI (wdF s ed rs m ls j i) ∧ gi Hk 140 (20 * j + i) = nI (wdN s ed rs m ls j i)) → (∀ b, 1 ≤ b → b < j → DK Hk (wdG s ed rs m ls) (wdF s ed rs m ls) (wdN s ed rs m ls) b) → P 154 [some (.ref 107), some (.int (nI m)), some (.int (nI lst)), some (.int (nI j)), some (.int (nI td)), some (.int (nI k))] [] Hk 0 0 := by
    intro n
    induction n using Nat.strongRecOn with
    | _ n ih =>
      intro k Hk hk FX h138 hI hD
      have FH : Ft [31, 32, 33, 34, 35, 36, 37, 40, 53, 54, 55, 56, 60] [128, 129, 130, 131, 132, 133, 134, 135, 136, 137, 138, 139, 140, 143] h Hk := F.trans (FX.ft.mono rfl)
      have WH := FH.rw W rfl
      have TH := FX.ft.tk T rfl rfl
      refine hP.1 _ _ s_R_goThroughTalk_154 _ _ _ _ _ ?_
      simp (maxSteps := 1000000) (disch := omega) only [g_R_goThroughTalk_154, slk, List.map_cons, List.map_nil, List.sum_cons, List.sum_nil, vc_i, vc_r, vc_n, vc_l, vc_o, Nat.add_zero, kO_e, kA_e, hdO_a, eq_self, blk, stp, lg, ls0, lk, ls1, ls2, kI_i, kL_l, kR_r, kR_n, kR_o, s1I_i, s2I_i, s1L_l, s2L_l, s1R_r, s1R_n, s1R_o, s1A_a, cmpc, popn, swt, rf_s, rf_n, cat_i, cat_r, cat_n, cat_l, true_and, and_true, List.length_cons, List.length_nil, Nat.zero_add, Int.reduceToNat, Nat.reduceAdd, Nat.reduceDiv, Nat.reduceMod, Nat.reduceMul, Nat.reduceSub, Nat.reduceLeDiff, Nat.reduceLT, Nat.reduceEqDiff, ↓reduceIte, r_gr_wi, r_gl_wi, r_gk_wi, r_gn_wi, r_wi_eq, r_wi_ne, r_wi_nj, r_gi_wr, r_gl_wr, r_gk_wr, r_gn_wr, r_gr_wa, r_gl_wa, r_gk_wa, r_gn_wa, u_lt, u_le, u_gt, u_ge, u_lt0, u_le0, u_gt0, u_ge0, Classical.not_not, not_true_eq_false, not_false_eq_true, oi_n, oi_m, n_dec, nI_add, pk_mul, n_sub, n_eq, n_le, n_lt, n_eq0, n_lt0, n_le0, n_0lt, n_0le, n_eqm, m_eqn, n_ltm, n_and, n_or, n_xor, n_shl, n_shr, tb1, tb0, bP_1, bP_0, bP_n0, ix_n, inb_n, u_eq, u_eqm]
      refine ⟨fun hc => ?_, fun hc => ?_⟩
      · have ek : k = 20 := by omega
        subst ek
        refine J Hk FH TH (FX.ft.lks L1 rfl (fun _ => rfl)) ((FX.2 _ _ rfl).trans e54) ((FX.2 _ _ rfl).trans e55) (fun b b1 b2 => ?_) _
        by_cases q : b = j
        · subst q
          exact ⟨⟨h138, dok.2.2.1⟩, fun i hi => ⟨(hI i hi).1, (hI i hi).2, sfB_lt dok.1 _ _, snB_lt dok.1 _ _⟩⟩
        · exact hD b b1 (by omega)
      · have tk := TK_k TH (k := k) (by omega)
        refine hP.1 _ _ s_R_goThroughTalk_161 _ _ _ _ _ ?_
        simp (maxSteps := 1000000) (disch := omega) only [g_R_goThroughTalk_161, slk, List.map_cons, List.map_nil, List.sum_cons, List.sum_nil, vc_i, vc_r, vc_n, vc_l, vc_o, Nat.add_zero, kO_e, kA_e, hdO_a, eq_self, blk, stp, lg, ls0, lk, ls1, ls2, kI_i, kL_l, kR_r, kR_n, kR_o, s1I_i, s2I_i, s1L_l, s2L_l, s1R_r, s1R_n, s1R_o, s1A_a, cmpc, popn, swt, rf_s, rf_n, cat_i, cat_r, cat_n, cat_l, true_and, and_true, List.length_cons, List.length_nil, Nat.zero_add, Int.reduceToNat, Nat.reduceAdd, Nat.reduceDiv, Nat.reduceMod, Nat.reduceMul, Nat.reduceSub, Nat.reduceLeDiff, Nat.reduceLT, Nat.reduceEqDiff, ↓reduceIte, r_gr_wi, r_gl_wi, r_gk_wi, r_gn_wi, r_wi_eq, r_wi_ne, r_wi_nj, r_gi_wr, r_gl_wr, r_gk_wr, r_gn_wr, r_gr_wa, r_gl_wa, r_gk_wa, r_gn_wa, u_lt, u_le, u_gt, u_ge, u_lt0, u_le0, u_gt0, u_ge0, Classical.not_not, not_true_eq_false, not_false_eq_true, oi_n, oi_m, n_dec, nI_add, pk_mul, n_sub, n_eq, n_le, n_lt, n_eq0, n_lt0, n_le0, n_0lt, n_0le, n_eqm, m_eqn, n_ltm, n_and, n_or, n_xor, n_shl, n_shr, tb1, tb0, bP_1, bP_0, bP_n0, ix_n, inb_n, u_eq, u_eqm, k107 WH.1, f107_51 WH.1, k139 WH.1, f107_47 WH.1, k135 WH.1, f107_52 WH.1, k140 WH.1, f107_48 WH.1, k136 WH.1, tk.1, tk.2, k135 WH.1, k136 WH.1, k139 WH.1, k140 WH.1]
        refine ih (n - 1) (by omega) (k + 1) _ (by omega) ((FX.wi _ rfl).wi _ rfl) ?_ ?_ ?_
        · simp (disch := omega) only [r_wi_ne]
          exact h138
        · intro i hi
          by_cases q : i = k
          · subst q
            simp (disch := omega) only [r_wi_eq, r_wi_ne]
            exact ⟨rfl, rfl⟩
          · simp (disch := omega) only [r_wi_ne, r_wi_nj]
            exact hI i (by omega)
        · intro b b1 b2
          refine DK_o (hD b b1 b2) ?_ (fun i hi => ⟨?_, ?_⟩)
          · simp (disch := omega) only [r_wi_ne]
          · simp (disch := omega) only [r_wi_ne, r_wi_nj]
          · simp (disch := omega) only [r_wi_ne, r_wi_nj]
  have WH := F.rw W rfl
  refine hP.1 _ _ s_R_goThroughTalk_141 _ _ _ _ _ ?_
  simp (maxSteps := 1000000) (disch := omega) only [g_R_goThroughTalk_141, slk, List.map_cons, List.map_nil, List.sum_cons, List.sum_nil, vc_i, vc_r, vc_n, vc_l, vc_o, Nat.add_zero, kO_e, kA_e, hdO_a, eq_self, blk, stp, lg, ls0, lk, ls1, ls2, kI_i, kL_l, kR_r, kR_n, kR_o, s1I_i, s2I_i, s1L_l, s2L_l, s1R_r, s1R_n, s1R_o, s1A_a, cmpc, popn, swt, rf_s, rf_n, cat_i, cat_r, cat_n, cat_l, true_and, and_true, List.length_cons, List.length_nil, Nat.zero_add, Int.reduceToNat, Nat.reduceAdd, Nat.reduceDiv, Nat.reduceMod, Nat.reduceMul, Nat.reduceSub, Nat.reduceLeDiff, Nat.reduceLT, Nat.reduceEqDiff, ↓reduceIte, r_gr_wi, r_gl_wi, r_gk_wi, r_gn_wi, r_wi_eq, r_wi_ne, r_wi_nj, r_gi_wr, r_gl_wr, r_gk_wr, r_gn_wr, r_gr_wa, r_gl_wa, r_gk_wa, r_gn_wa, u_lt, u_le, u_gt, u_ge, u_lt0, u_le0, u_gt0, u_ge0, Classical.not_not, not_true_eq_false, not_false_eq_true, oi_n, oi_m, n_dec, nI_add, pk_mul, n_sub, n_eq, n_le, n_lt, n_eq0, n_lt0, n_le0, n_0lt, n_0le, n_eqm, m_eqn, n_ltm, n_and, n_or, n_xor, n_shl, n_shr, tb1, tb0, bP_1, bP_0, bP_n0, ix_n, inb_n, u_eq, u_eqm, k107 WH.1, f107_50 WH.1, k138 WH.1, T.1.2, k138 WH.1]
  refine loop 20 0 _ rfl ((Fx.refl _ _ H).wi _ rfl) ?_ (fun i hi => absurd hi (Nat.not_lt_zero _)) ?_
  · rw [r_wi_eq]
    rfl
  · intro b b1 b2
    refine DK_o (DD b b1 b2) ?_ (fun i hi => ⟨?_, ?_⟩)
    · simp (disch := omega) only [r_wi_nj]
    · simp (disch := omega) only [r_wi_ne]
    · simp (disch := omega) only [r_wi_ne]
/-- whether it ends -/
theorem gt_end (W : RH h s) (K : SK h) (TT : TO s) (S : SE h s) {ed rs : Nat → Nat} {m : Nat} {ls : List Lk} (hm : m < s 107 19)
    {P : Nat → LL → List Value → AH → Nat → Nat → Prop} (hP : Clo (Mz (d + 35)) 119 0 0 (PY s ed rs m ls h) P) {j n : Nat} (hj1 : 1 ≤ j) (hj : j ≤ 30) (hl : j ≤ ldN s m) (er : tlS s ed rs m ls = tlF s ed rs m ls (n + 1) j)
    (J : endA s ed rs m ls j = none → ∀ H, Ft [31, 32, 33, 34, 35, 36, 37, 40, 53, 54, 55, 56, 60] [128, 129, 130, 131, 132, 133, 134, 135, 136, 137, 138, 139, 140, 143] h H → TK H (dE s ed rs m ls j).1 (dE s ed rs m ls j).2.1 → LKs H (dE s ed rs m ls j).2.2.2 → gi H 107 54 = -1 → (∀ b, 1 ≤ b → b < j + 1 → DK H (wdG s ed rs m ls) (wdF s ed rs m ls) (wdN s ed rs m ls) b) → P 77 [some (.ref 107), some (.int (nI m)), some (.int (nI (ldN s m))), some (.int (nI (j + 1))), none, none] [] H 0 0)
    {H : AH} (F : Ft [31, 32, 33, 34, 35, 36, 37, 40, 53, 54, 55, 56, 60] [128, 129, 130, 131, 132, 133, 134, 135, 136, 137, 138, 139, 140, 143] h H) (T : TK H (dE s ed rs m ls j).1 (dE s ed rs m ls j).2.1) (L1 : LKs H (dE s ed rs m ls j).2.2.2) (e54 : gi H 107 54 = -1) (e55 : gi H 107 55 = nI j) (DD : ∀ b, 1 ≤ b → b < j + 1 → DK H (wdG s ed rs m ls) (wdF s ed rs m ls) (wdN s ed rs m ls) b) (x : Option Value) : P 205 [some (.ref 107), some (.int (nI m)), some (.int (nI (ldN s m))), some (.int (nI j)), some (.int (nI ((dE s ed rs m ls j).2.2.1))), x] [] H 0 0 := by
  have dok := dE_ok (ed := ed) (rs := rs) (ls := ls) W hm j hj
  have lb := ldN_b s m
  have WH := F.rw W rfl
  have KH := F.sk K rfl
  have SH := F.se S rfl (fun _ => rfl)
  have over : ∀ c x H, endA s ed rs m ls j = some c → Ft [31, 32, 33, 34, 35, 36, 37, 40, 53, 54, 55, 56, 60] [128, 129, 130, 131, 132, 133, 134, 135, 136, 137, 138, 139, 140, 143] h H → TK H (dE s ed rs m ls j).1 (dE s ed rs m ls j).2.1 → LKs H (dE s ed rs m ls j).2.2.2 → gi H 107 55 = nI j → gi H 107 54 = nI c → c < 4 → P 274 [some (.ref 107), some (.int (nI m)), some (.int (nI (ldN s m))), some (.int (nI j)), some (.int (nI ((dE s ed rs m ls j).2.2.1))), x] [] H 0 0 := by
    intro c x H ea F T L1 e55 ec c4
    have WH := F.rw W rfl
    have e2 : tlS s ed rs m ls = (j, c) := by
      rw [er]
      show (match endA s ed rs m ls j with | some c => (j, c) | none => _) = _
      rw [ea]
    refine hP.1 _ _ s_R_goThroughTalk_274 _ _ _ _ _ ?_
    simp (maxSteps := 1000000) (disch := omega) only [g_R_goThroughTalk_274, slk, List.map_cons, List.map_nil, List.sum_cons, List.sum_nil, vc_i, vc_r, vc_n, vc_l, vc_o, Nat.add_zero, kO_e, kA_e, hdO_a, eq_self, blk, stp, lg, ls0, lk, ls1, ls2, kI_i, kL_l, kR_r, kR_n, kR_o, s1I_i, s2I_i, s1L_l, s2L_l, s1R_r, s1R_n, s1R_o, s1A_a, cmpc, popn, swt, rf_s, rf_n, cat_i, cat_r, cat_n, cat_l, true_and, and_true, List.length_cons, List.length_nil, Nat.zero_add, Int.reduceToNat, Nat.reduceAdd, Nat.reduceDiv, Nat.reduceMod, Nat.reduceMul, Nat.reduceSub, Nat.reduceLeDiff, Nat.reduceLT, Nat.reduceEqDiff, ↓reduceIte, r_gr_wi, r_gl_wi, r_gk_wi, r_gn_wi, r_wi_eq, r_wi_ne, r_wi_nj, r_gi_wr, r_gl_wr, r_gk_wr, r_gn_wr, r_gr_wa, r_gl_wa, r_gk_wa, r_gn_wa, u_lt, u_le, u_gt, u_ge, u_lt0, u_le0, u_gt0, u_ge0, Classical.not_not, not_true_eq_false, not_false_eq_true, oi_n, oi_m, n_dec, nI_add, pk_mul, n_sub, n_eq, n_le, n_lt, n_eq0, n_lt0, n_le0, n_0lt, n_0le, n_eqm, m_eqn, n_ltm, n_and, n_or, n_xor, n_shl, n_shr, tb1, tb0, bP_1, bP_0, bP_n0, ix_n, inb_n, u_eq, u_eqm, ec]
    refine hP.1 _ _ s_R_goThroughTalk_77 _ _ _ _ _ ?_
    simp (maxSteps := 1000000) (disch := omega) only [g_R_goThroughTalk_77, slk, List.map_cons, List.map_nil, List.sum_cons, List.sum_nil, vc_i, vc_r, vc_n, vc_l, vc_o, Nat.add_zero, kO_e, kA_e, hdO_a, eq_self, blk, stp, lg, ls0, lk, ls1, ls2, kI_i, kL_l, kR_r, kR_n, kR_o, s1I_i, s2I_i, s1L_l, s2L_l, s1R_r, s1R_n, s1R_o, s1A_a, cmpc, popn, swt, rf_s, rf_n, cat_i, cat_r, cat_n, cat_l, true_and, and_true, List.length_cons, List.length_nil, Nat.zero_add, Int.reduceToNat, Nat.reduceAdd, Nat.reduceDiv, Nat.reduceMod, Nat.reduceMul, Nat.reduceSub, Nat.reduceLeDiff, Nat.reduceLT, Nat.reduceEqDiff, ↓reduceIte, r_gr_wi, r_gl_wi, r_gk_wi, r_gn_wi, r_wi_eq, r_wi_ne, r_wi_nj, r_gi_wr, r_gl_wr, r_gk_wr, r_gn_wr, r_gr_wa, r_gl_wa, r_gk_wa, r_gn_wa, u_lt, u_le, u_gt, u_ge, u_lt0, u_le0, u_gt0, u_ge0, Classical.not_not, not_true_eq_false, not_false_eq_true, oi_n, oi_m, n_dec, nI_add, pk_mul, n_sub, n_eq, n_le, n_lt, n_eq0, n_lt0, n_le0, n_0lt, n_0le, n_eqm, m_eqn, n_ltm, n_and, n_or, n_xor, n_shl, n_shr, tb1, tb0, bP_1, bP_0, bP_n0, ix_n, inb_n, u_eq, u_eqm, k107 WH.1, ec]
    refine ⟨fun _ => ?_, fun q => by first | exact q.elim | (exfalso; omega)⟩
    refine hP.1 _ _ s_R_goThroughTalk_280 _ _ _ _ _ ?_
    simp (maxSteps := 1000000) (disch := omega) only [g_R_goThroughTalk_280, slk, List.map_cons, List.map_nil, List.sum_cons, List.sum_nil, vc_i, vc_r, vc_n, vc_l, vc_o, Nat.add_zero, kO_e, kA_e, hdO_a, eq_self, blk, stp, lg, ls0, lk, ls1, ls2, kI_i, kL_l, kR_r, kR_n, kR_o, s1I_i, s2I_i, s1L_l, s2L_l, s1R_r, s1R_n, s1R_o, s1A_a, cmpc, popn, swt, rf_s, rf_n, cat_i, cat_r, cat_n, cat_l, true_and, and_true, List.length_cons, List.length_nil, Nat.zero_add, Int.reduceToNat, Nat.reduceAdd, Nat.reduceDiv, Nat.reduceMod, Nat.reduceMul, Nat.reduceSub, Nat.reduceLeDiff, Nat.reduceLT, Nat.reduceEqDiff, ↓reduceIte, r_gr_wi, r_gl_wi, r_gk_wi, r_gn_wi, r_wi_eq, r_wi_ne, r_wi_nj, r_gi_wr, r_gl_wr, r_gk_wr, r_gn_wr, r_gr_wa, r_gl_wa, r_gk_wa, r_gn_wa, u_lt, u_le, u_gt, u_ge, u_lt0, u_le0, u_gt0, u_ge0, Classical.not_not, not_true_eq_false, not_false_eq_true, oi_n, oi_m, n_dec, nI_add, pk_mul, n_sub, n_eq, n_le, n_lt, n_eq0, n_lt0, n_le0, n_0lt, n_0le, n_eqm, m_eqn, n_ltm, n_and, n_or, n_xor, n_shl, n_shr, tb1, tb0, bP_1, bP_0, bP_n0, ix_n, inb_n, u_eq, u_eqm, ec]
    rw [r_R_goThroughTalk]
    refine ⟨trivial, rfl, F, ?_, ?_, ?_⟩
    · rw [e2]
      exact ⟨ec, e55⟩
    · rw [e2]
      exact T
    · rw [e2]
      exact L1
  have goes : ∀ x H, endA s ed rs m ls j = none → Ft [31, 32, 33, 34, 35, 36, 37, 40, 53, 54, 55, 56, 60] [128, 129, 130, 131, 132, 133, 134, 135, 136, 137, 138, 139, 140, 143] h H → TK H (dE s ed rs m ls j).1 (dE s ed rs m ls j).2.1 → LKs H (dE s ed rs m ls j).2.2.2 → gi H 107 54 = -1 → (∀ b, 1 ≤ b → b < j + 1 → DK H (wdG s ed rs m ls) (wdF s ed rs m ls) (wdN s ed rs m ls) b) → P 274 [some (.ref 107), some (.int (nI m)), some (.int (nI (ldN s m))), some (.int (nI j)), some (.int (nI ((dE s ed rs m ls j).2.2.1))), x] [] H 0 0 := by
    intro x H ea F T L1 e54 DD
    have := J ea H F T L1 e54 DD
    refine hP.1 _ _ s_R_goThroughTalk_274 _ _ _ _ _ ?_
    simp (maxSteps := 1000000) (disch := omega) only [g_R_goThroughTalk_274, slk, List.map_cons, List.map_nil, List.sum_cons, List.sum_nil, vc_i, vc_r, vc_n, vc_l, vc_o, Nat.add_zero, kO_e, kA_e, hdO_a, eq_self, blk, stp, lg, ls0, lk, ls1, ls2, kI_i, kL_l, kR_r, kR_n, kR_o, s1I_i, s2I_i, s1L_l, s2L_l, s1R_r, s1R_n, s1R_o, s1A_a, cmpc, popn, swt, rf_s, rf_n, cat_i, cat_r, cat_n, cat_l, true_and, and_true, List.length_cons, List.length_nil, Nat.zero_add, Int.reduceToNat, Nat.reduceAdd, Nat.reduceDiv, Nat.reduceMod, Nat.reduceMul, Nat.reduceSub, Nat.reduceLeDiff, Nat.reduceLT, Nat.reduceEqDiff, ↓reduceIte, r_gr_wi, r_gl_wi, r_gk_wi, r_gn_wi, r_wi_eq, r_wi_ne, r_wi_nj, r_gi_wr, r_gl_wr, r_gk_wr, r_gn_wr, r_gr_wa, r_gl_wa, r_gk_wa, r_gn_wa, u_lt, u_le, u_gt, u_ge, u_lt0, u_le0, u_gt0, u_ge0, Classical.not_not, not_true_eq_false, not_false_eq_true, oi_n, oi_m, n_dec, nI_add, pk_mul, n_sub, n_eq, n_le, n_lt, n_eq0, n_lt0, n_le0, n_0lt, n_0le, n_eqm, m_eqn, n_ltm, n_and, n_or, n_xor, n_shl, n_shr, tb1, tb0, bP_1, bP_0, bP_n0, ix_n, inb_n, u_eq, u_eqm]
    refine hP.2.1 _ _ _ _ _ _ _ (lsk _ (lsk _ (lsk _ (lsk _ (lsf _ (lsf _ lsn)))))) ?_
    exact this
  have td := dE_td (ed := ed) (rs := rs) (m := m) (ls := ls) W j
  refine hP.1 _ _ s_R_goThroughTalk_205 _ _ _ _ _ ?_
  simp (maxSteps := 1000000) (disch := omega) only [g_R_goThroughTalk_205, slk, List.map_cons, List.map_nil, List.sum_cons, List.sum_nil, vc_i, vc_r, vc_n, vc_l, vc_o, Nat.add_zero, kO_e, kA_e, hdO_a, eq_self, blk, stp, lg, ls0, lk, ls1, ls2, kI_i, kL_l, kR_r, kR_n, kR_o, s1I_i, s2I_i, s1L_l, s2L_l, s1R_r, s1R_n, s1R_o, s1A_a, cmpc, popn, swt, rf_s, rf_n, cat_i, cat_r, cat_n, cat_l, true_and, and_true, List.length_cons, List.length_nil, Nat.zero_add, Int.reduceToNat, Nat.reduceAdd, Nat.reduceDiv, Nat.reduceMod, Nat.reduceMul, Nat.reduceSub, Nat.reduceLeDiff, Nat.reduceLT, Nat.reduceEqDiff, ↓reduceIte, r_gr_wi, r_gl_wi, r_gk_wi, r_gn_wi, r_wi_eq, r_wi_ne, r_wi_nj, r_gi_wr, r_gl_wr, r_gk_wr, r_gn_wr, r_gr_wa, r_gl_wa, r_gk_wa, r_gn_wa, u_lt, u_le, u_gt, u_ge, u_lt0, u_le0, u_gt0, u_ge0, Classical.not_not, not_true_eq_false, not_false_eq_true, oi_n, oi_m, n_dec, nI_add, pk_mul, n_sub, n_eq, n_le, n_lt, n_eq0, n_lt0, n_le0, n_0lt, n_0le, n_eqm, m_eqn, n_ltm, n_and, n_or, n_xor, n_shl, n_shr, tb1, tb0, bP_1, bP_0, bP_n0, ix_n, inb_n, u_eq, u_eqm]
  refine ⟨fun q => ?_, fun q => ?_⟩
  · refine hP.1 _ _ s_R_goThroughTalk_231 _ _ _ _ _ ?_
    simp (maxSteps := 1000000) (disch := omega) only [g_R_goThroughTalk_231, slk, List.map_cons, List.map_nil, List.sum_cons, List.sum_nil, vc_i, vc_r, vc_n, vc_l, vc_o, Nat.add_zero, kO_e, kA_e, hdO_a, eq_self, blk, stp, lg, ls0, lk, ls1, ls2, kI_i, kL_l, kR_r, kR_n, kR_o, s1I_i, s2I_i, s1L_l, s2L_l, s1R_r, s1R_n, s1R_o, s1A_a, cmpc, popn, swt, rf_s, rf_n, cat_i, cat_r, cat_n, cat_l, true_and, and_true, List.length_cons, List.length_nil, Nat.zero_add, Int.reduceToNat, Nat.reduceAdd, Nat.reduceDiv, Nat.reduceMod, Nat.reduceMul, Nat.reduceSub, Nat.reduceLeDiff, Nat.reduceLT, Nat.reduceEqDiff, ↓reduceIte, r_gr_wi, r_gl_wi, r_gk_wi, r_gn_wi, r_wi_eq, r_wi_ne, r_wi_nj, r_gi_wr, r_gl_wr, r_gk_wr, r_gn_wr, r_gr_wa, r_gl_wa, r_gk_wa, r_gn_wa, u_lt, u_le, u_gt, u_ge, u_lt0, u_le0, u_gt0, u_ge0, Classical.not_not, not_true_eq_false, not_false_eq_true, oi_n, oi_m, n_dec, nI_add, pk_mul, n_sub, n_eq, n_le, n_lt, n_eq0, n_lt0, n_le0, n_0lt, n_0le, n_eqm, m_eqn, n_ltm, n_and, n_or, n_xor, n_shl, n_shr, tb1, tb0, bP_1, bP_0, bP_n0, ix_n, inb_n, u_eq, u_eqm]
    refine ⟨fun q2 => ?_, fun q2 => ?_⟩
    · refine hP.1 _ _ s_R_goThroughTalk_244 _ _ _ _ _ ?_
      simp (maxSteps := 1000000) (disch := omega) only [g_R_goThroughTalk_244, slk, List.map_cons, List.map_nil, List.sum_cons, List.sum_nil, vc_i, vc_r, vc_n, vc_l, vc_o, Nat.add_zero, kO_e, kA_e, hdO_a, eq_self, blk, stp, lg, ls0, lk, ls1, ls2, kI_i, kL_l, kR_r, kR_n, kR_o, s1I_i, s2I_i, s1L_l, s2L_l, s1R_r, s1R_n, s1R_o, s1A_a, cmpc, popn, swt, rf_s, rf_n, cat_i, cat_r, cat_n, cat_l, true_and, and_true, List.length_cons, List.length_nil, Nat.zero_add, Int.reduceToNat, Nat.reduceAdd, Nat.reduceDiv, Nat.reduceMod, Nat.reduceMul, Nat.reduceSub, Nat.reduceLeDiff, Nat.reduceLT, Nat.reduceEqDiff, ↓reduceIte, r_gr_wi, r_gl_wi, r_gk_wi, r_gn_wi, r_wi_eq, r_wi_ne, r_wi_nj, r_gi_wr, r_gl_wr, r_gk_wr, r_gn_wr, r_gr_wa, r_gl_wa, r_gk_wa, r_gn_wa, u_lt, u_le, u_gt, u_ge, u_lt0, u_le0, u_gt0, u_ge0, Classical.not_not, not_true_eq_false, not_false_eq_true, oi_n, oi_m, n_dec, nI_add, pk_mul, n_sub, n_eq, n_le, n_lt, n_eq0, n_lt0, n_le0, n_0lt, n_0le, n_eqm, m_eqn, n_ltm, n_and, n_or, n_xor, n_shl, n_shr, tb1, tb0, bP_1, bP_0, bP_n0, ix_n, inb_n, u_eq, u_eqm]
      have loop : ∀ n b H2, b + n = j → 1 ≤ b → Ft [31, 32, 33, 34, 35, 36, 37, 40, 53, 54, 55, 56, 60] [128, 129, 130, 131, 132, 133, 134, 135, 136, 137, 138, 139, 140, 143] h H2 → TK H2 (dE s ed rs m ls j).1 (dE s ed rs m ls j).2.1 → LKs H2 (dE s ed rs m ls j).2.2.2 → gi H2 107 55 = nI j → (∀ b, 1 ≤ b → b < j + 1 → DK H2 (wdG s ed rs m ls) (wdF s ed rs m ls) (wdN s ed rs m ls) b) → (((¬ ∃ c, 1 ≤ c ∧ c < b ∧ wsB s ed rs m ls j c) ∧ gi H2 107 54 = -1) ∨ ((∃ c, 1 ≤ c ∧ c < b ∧ wsB s ed rs m ls j c) ∧ gi H2 107 54 = nI 2)) → P 247 [some (.ref 107), some (.int (nI m)), some (.int (nI (ldN s m))), some (.int (nI j)), some (.int (nI ((dE s ed rs m ls j).2.2.1))), some (.int (nI b))] [] H2 0 0 := by
        intro n
        induction n using Nat.strongRecOn with
        | _ n ih =>
          intro b H2 hb hb1 F T L1 e55 DD hh
          have WH := F.rw W rfl
          refine hP.1 _ _ s_R_goThroughTalk_247 _ _ _ _ _ ?_
          simp (maxSteps := 1000000) (disch := omega) only [g_R_goThroughTalk_247, slk, List.map_cons, List.map_nil, List.sum_cons, List.sum_nil, vc_i, vc_r, vc_n, vc_l, vc_o, Nat.add_zero, kO_e, kA_e, hdO_a, eq_self, blk, stp, lg, ls0, lk, ls1, ls2, kI_i, kL_l, kR_r, kR_n, kR_o, s1I_i, s2I_i, s1L_l, s2L_l, s1R_r, s1R_n, s1R_o, s1A_a, cmpc, popn, swt, rf_s, rf_n, cat_i, cat_r, cat_n, cat_l, true_and, and_true, List.length_cons, List.length_nil, Nat.zero_add, Int.reduceToNat, Nat.reduceAdd, Nat.reduceDiv, Nat.reduceMod, Nat.reduceMul, Nat.reduceSub, Nat.reduceLeDiff, Nat.reduceLT, Nat.reduceEqDiff, ↓reduceIte, r_gr_wi, r_gl_wi, r_gk_wi, r_gn_wi, r_wi_eq, r_wi_ne, r_wi_nj, r_gi_wr, r_gl_wr, r_gk_wr, r_gn_wr, r_gr_wa, r_gl_wa, r_gk_wa, r_gn_wa, u_lt, u_le, u_gt, u_ge, u_lt0, u_le0, u_gt0, u_ge0, Classical.not_not, not_true_eq_false, not_false_eq_true, oi_n, oi_m, n_dec, nI_add, pk_mul, n_sub, n_eq, n_le, n_lt, n_eq0, n_lt0, n_le0, n_0lt, n_0le, n_eqm, m_eqn, n_ltm, n_and, n_or, n_xor, n_shl, n_shr, tb1, tb0, bP_1, bP_0, bP_n0, ix_n, inb_n, u_eq, u_eqm]
          refine ⟨fun hc => ?_, fun hc => ?_⟩
          · have eb : b = j := by omega
            subst eb
            rcases hh with ⟨a1, a2⟩ | ⟨a1, a2⟩
            · exact goes _ H2 (by unfold endA; rw [ifO_f q, ifO_f q2, ifO_f a1]) F T L1 a2 DD
            · exact over 2 _ H2 (by unfold endA; rw [ifO_f q, ifO_f q2, ifO_t a1]) F T L1 e55 a2 (by omega)
          · have ext : ∀ z : Prop, (z ↔ wsB s ed rs m ls j b) → ((∃ c, 1 ≤ c ∧ c < b + 1 ∧ wsB s ed rs m ls j c) ↔ (∃ c, 1 ≤ c ∧ c < b ∧ wsB s ed rs m ls j c) ∨ z) := by
              intro z hz
              constructor
              · rintro ⟨c, c1, c2, c3⟩
                by_cases q : c = b
                · subst q
                  exact Or.inr (hz.mpr c3)
                · exact Or.inl ⟨c, c1, by omega, c3⟩
              · rintro (⟨c, c1, c2, c3⟩ | c3)
                · exact ⟨c, c1, by omega, c3⟩
                · exact ⟨b, hb1, by omega, hz.mp c3⟩
            refine hP.1 _ _ s_R_goThroughTalk_253 _ _ _ _ _ ?_
            simp (maxSteps := 1000000) (disch := omega) only [g_R_goThroughTalk_253, slk, List.map_cons, List.map_nil, List.sum_cons, List.sum_nil, vc_i, vc_r, vc_n, vc_l, vc_o, Nat.add_zero, kO_e, kA_e, hdO_a, eq_self, blk, stp, lg, ls0, lk, ls1, ls2, kI_i, kL_l, kR_r, kR_n, kR_o, s1I_i, s2I_i, s1L_l, s2L_l, s1R_r, s1R_n, s1R_o, s1A_a, cmpc, popn, swt, rf_s, rf_n, cat_i, cat_r, cat_n, cat_l, true_and, and_true, List.length_cons, List.length_nil, Nat.zero_add, Int.reduceToNat, Nat.reduceAdd, Nat.reduceDiv, Nat.reduceMod, Nat.reduceMul, Nat.reduceSub, Nat.reduceLeDiff, Nat.reduceLT, Nat.reduceEqDiff, ↓reduceIte, r_gr_wi, r_gl_wi, r_gk_wi, r_gn_wi, r_wi_eq, r_wi_ne, r_wi_nj, r_gi_wr, r_gl_wr, r_gk_wr, r_gn_wr, r_gr_wa, r_gl_wa, r_gk_wa, r_gn_wa, u_lt, u_le, u_gt, u_ge, u_lt0, u_le0, u_gt0, u_ge0, Classical.not_not, not_true_eq_false, not_false_eq_true, oi_n, oi_m, n_dec, nI_add, pk_mul, n_sub, n_eq, n_le, n_lt, n_eq0, n_lt0, n_le0, n_0lt, n_0le, n_eqm, m_eqn, n_ltm, n_and, n_or, n_xor, n_shl, n_shr, tb1, tb0, bP_1, bP_0, bP_n0, ix_n, inb_n, u_eq, u_eqm, k107 WH.1]
            refine wc (c_R_wasAs WH.1 (a := b) (b := j) (by omega) (by omega) (DD b hb1 (by omega)) (DD j hj1 (by omega))) ⟨by omega, by omega⟩ ?_
            simp (maxSteps := 1000000) (disch := omega) only [slk, List.map_cons, List.map_nil, List.sum_cons, List.sum_nil, vc_i, vc_r, vc_n, vc_l, vc_o, Nat.add_zero, kO_e, kA_e, hdO_a, eq_self, blk, stp, lg, ls0, lk, ls1, ls2, kI_i, kL_l, kR_r, kR_n, kR_o, s1I_i, s2I_i, s1L_l, s2L_l, s1R_r, s1R_n, s1R_o, s1A_a, cmpc, popn, swt, rf_s, rf_n, cat_i, cat_r, cat_n, cat_l, true_and, and_true, List.length_cons, List.length_nil, Nat.zero_add, Int.reduceToNat, Nat.reduceAdd, Nat.reduceDiv, Nat.reduceMod, Nat.reduceMul, Nat.reduceSub, Nat.reduceLeDiff, Nat.reduceLT, Nat.reduceEqDiff, ↓reduceIte, r_gr_wi, r_gl_wi, r_gk_wi, r_gn_wi, r_wi_eq, r_wi_ne, r_wi_nj, r_gi_wr, r_gl_wr, r_gk_wr, r_gn_wr, r_gr_wa, r_gl_wa, r_gk_wa, r_gn_wa, u_lt, u_le, u_gt, u_ge, u_lt0, u_le0, u_gt0, u_ge0, Classical.not_not, not_true_eq_false, not_false_eq_true, oi_n, oi_m, n_dec, nI_add, pk_mul, n_sub, n_eq, n_le, n_lt, n_eq0, n_lt0, n_le0, n_0lt, n_0le, n_eqm, m_eqn, n_ltm, n_and, n_or, n_xor, n_shl, n_shr, tb1, tb0, bP_1, bP_0, bP_n0, ix_n, inb_n, u_eq, u_eqm, k107 WH.1]
            refine ⟨fun w => ?_, fun w => ?_⟩
            · refine hP.1 _ _ s_R_goThroughTalk_268 _ _ _ _ _ ?_
              simp (maxSteps := 1000000) (disch := omega) only [g_R_goThroughTalk_268, slk, List.map_cons, List.map_nil, List.sum_cons, List.sum_nil, vc_i, vc_r, vc_n, vc_l, vc_o, Nat.add_zero, kO_e, kA_e, hdO_a, eq_self, blk, stp, lg, ls0, lk, ls1, ls2, kI_i, kL_l, kR_r, kR_n, kR_o, s1I_i, s2I_i, s1L_l, s2L_l, s1R_r, s1R_n, s1R_o, s1A_a, cmpc, popn, swt, rf_s, rf_n, cat_i, cat_r, cat_n, cat_l, true_and, and_true, List.length_cons, List.length_nil, Nat.zero_add, Int.reduceToNat, Nat.reduceAdd, Nat.reduceDiv, Nat.reduceMod, Nat.reduceMul, Nat.reduceSub, Nat.reduceLeDiff, Nat.reduceLT, Nat.reduceEqDiff, ↓reduceIte, r_gr_wi, r_gl_wi, r_gk_wi, r_gn_wi, r_wi_eq, r_wi_ne, r_wi_nj, r_gi_wr, r_gl_wr, r_gk_wr, r_gn_wr, r_gr_wa, r_gl_wa, r_gk_wa, r_gn_wa, u_lt, u_le, u_gt, u_ge, u_lt0, u_le0, u_gt0, u_ge0, Classical.not_not, not_true_eq_false, not_false_eq_true, oi_n, oi_m, n_dec, nI_add, pk_mul, n_sub, n_eq, n_le, n_lt, n_eq0, n_lt0, n_le0, n_0lt, n_0le, n_eqm, m_eqn, n_ltm, n_and, n_or, n_xor, n_shl, n_shr, tb1, tb0, bP_1, bP_0, bP_n0, ix_n, inb_n, u_eq, u_eqm]
              refine ih (n - 1) (by omega) (b + 1) H2 (by omega) (by omega) F T L1 e55 DD ?_
              have e2 := ext False ⟨fun z => z.elim, fun z => w z⟩
              rw [or_false] at e2
              rw [e2]
              exact hh
            · refine hP.1 _ _ s_R_goThroughTalk_263 _ _ _ _ _ ?_
              simp (maxSteps := 1000000) (disch := omega) only [g_R_goThroughTalk_263, slk, List.map_cons, List.map_nil, List.sum_cons, List.sum_nil, vc_i, vc_r, vc_n, vc_l, vc_o, Nat.add_zero, kO_e, kA_e, hdO_a, eq_self, blk, stp, lg, ls0, lk, ls1, ls2, kI_i, kL_l, kR_r, kR_n, kR_o, s1I_i, s2I_i, s1L_l, s2L_l, s1R_r, s1R_n, s1R_o, s1A_a, cmpc, popn, swt, rf_s, rf_n, cat_i, cat_r, cat_n, cat_l, true_and, and_true, List.length_cons, List.length_nil, Nat.zero_add, Int.reduceToNat, Nat.reduceAdd, Nat.reduceDiv, Nat.reduceMod, Nat.reduceMul, Nat.reduceSub, Nat.reduceLeDiff, Nat.reduceLT, Nat.reduceEqDiff, ↓reduceIte, r_gr_wi, r_gl_wi, r_gk_wi, r_gn_wi, r_wi_eq, r_wi_ne, r_wi_nj, r_gi_wr, r_gl_wr, r_gk_wr, r_gn_wr, r_gr_wa, r_gl_wa, r_gk_wa, r_gn_wa, u_lt, u_le, u_gt, u_ge, u_lt0, u_le0, u_gt0, u_ge0, Classical.not_not, not_true_eq_false, not_false_eq_true, oi_n, oi_m, n_dec, nI_add, pk_mul, n_sub, n_eq, n_le, n_lt, n_eq0, n_lt0, n_le0, n_0lt, n_0le, n_eqm, m_eqn, n_ltm, n_and, n_or, n_xor, n_shl, n_shr, tb1, tb0, bP_1, bP_0, bP_n0, ix_n, inb_n, u_eq, u_eqm, k107 WH.1]
              refine hP.1 _ _ s_R_goThroughTalk_268 _ _ _ _ _ ?_
              simp (maxSteps := 1000000) (disch := omega) only [g_R_goThroughTalk_268, slk, List.map_cons, List.map_nil, List.sum_cons, List.sum_nil, vc_i, vc_r, vc_n, vc_l, vc_o, Nat.add_zero, kO_e, kA_e, hdO_a, eq_self, blk, stp, lg, ls0, lk, ls1, ls2, kI_i, kL_l, kR_r, kR_n, kR_o, s1I_i, s2I_i, s1L_l, s2L_l, s1R_r, s1R_n, s1R_o, s1A_a, cmpc, popn, swt, rf_s, rf_n, cat_i, cat_r, cat_n, cat_l, true_and, and_true, List.length_cons, List.length_nil, Nat.zero_add, Int.reduceToNat, Nat.reduceAdd, Nat.reduceDiv, Nat.reduceMod, Nat.reduceMul, Nat.reduceSub, Nat.reduceLeDiff, Nat.reduceLT, Nat.reduceEqDiff, ↓reduceIte, r_gr_wi, r_gl_wi, r_gk_wi, r_gn_wi, r_wi_eq, r_wi_ne, r_wi_nj, r_gi_wr, r_gl_wr, r_gk_wr, r_gn_wr, r_gr_wa, r_gl_wa, r_gk_wa, r_gn_wa, u_lt, u_le, u_gt, u_ge, u_lt0, u_le0, u_gt0, u_ge0, Classical.not_not, not_true_eq_false, not_false_eq_true, oi_n, oi_m, n_dec, nI_add, pk_mul, n_sub, n_eq, n_le, n_lt, n_eq0, n_lt0, n_le0, n_0lt, n_0le, n_eqm, m_eqn, n_ltm, n_and, n_or, n_xor, n_shl, n_shr, tb1, tb0, bP_1, bP_0, bP_n0, ix_n, inb_n, u_eq, u_eqm]
              have Fw : Fx [54] [] H2 (wi H2 107 54 (nI 2)) := (Fx.refl _ _ _).wi _ rfl
              refine ih (n - 1) (by omega) (b + 1) _ (by omega) (by omega) (F.trans (Fw.ft.mono rfl)) (Fw.ft.tk T rfl rfl) (Fw.ft.lks L1 rfl (fun _ => rfl)) ((Fw.2 _ _ rfl).trans e55) (fun b b1 b2 => Fw.ft.dk (DD b b1 b2) (fun _ => rfl) (fun _ => rfl) (fun _ => rfl)) (Or.inr ⟨⟨b, hb1, by omega, w⟩, ?_⟩)
              rw [r_wi_eq]
      exact loop (j - 1) 1 H (by omega) (Nat.le_refl _) F T L1 e55 DD (Or.inl ⟨fun ⟨c, c1, c2, _⟩ => by omega, e54⟩)
    · refine hP.1 _ _ s_R_goThroughTalk_236 _ _ _ _ _ ?_
      simp (maxSteps := 1000000) (disch := omega) only [g_R_goThroughTalk_236, slk, List.map_cons, List.map_nil, List.sum_cons, List.sum_nil, vc_i, vc_r, vc_n, vc_l, vc_o, Nat.add_zero, kO_e, kA_e, hdO_a, eq_self, blk, stp, lg, ls0, lk, ls1, ls2, kI_i, kL_l, kR_r, kR_n, kR_o, s1I_i, s2I_i, s1L_l, s2L_l, s1R_r, s1R_n, s1R_o, s1A_a, cmpc, popn, swt, rf_s, rf_n, cat_i, cat_r, cat_n, cat_l, true_and, and_true, List.length_cons, List.length_nil, Nat.zero_add, Int.reduceToNat, Nat.reduceAdd, Nat.reduceDiv, Nat.reduceMod, Nat.reduceMul, Nat.reduceSub, Nat.reduceLeDiff, Nat.reduceLT, Nat.reduceEqDiff, ↓reduceIte, r_gr_wi, r_gl_wi, r_gk_wi, r_gn_wi, r_wi_eq, r_wi_ne, r_wi_nj, r_gi_wr, r_gl_wr, r_gk_wr, r_gn_wr, r_gr_wa, r_gl_wa, r_gk_wa, r_gn_wa, u_lt, u_le, u_gt, u_ge, u_lt0, u_le0, u_gt0, u_ge0, Classical.not_not, not_true_eq_false, not_false_eq_true, oi_n, oi_m, n_dec, nI_add, pk_mul, n_sub, n_eq, n_le, n_lt, n_eq0, n_lt0, n_le0, n_0lt, n_0le, n_eqm, m_eqn, n_ltm, n_and, n_or, n_xor, n_shl, n_shr, tb1, tb0, bP_1, bP_0, bP_n0, ix_n, inb_n, u_eq, u_eqm, k107 WH.1]
      have Fw : Fx [54] [] H (wi H 107 54 (nI 1)) := (Fx.refl _ _ _).wi _ rfl
      exact over 1 _ _ (by unfold endA; rw [ifO_f q, ifO_t q2]) (F.trans (Fw.ft.mono rfl)) (Fw.ft.tk T rfl rfl) (Fw.ft.lks L1 rfl (fun _ => rfl)) ((Fw.2 _ _ rfl).trans e55) (r_wi_eq _ _ _ _) (by omega)
  · refine hP.1 _ _ s_R_goThroughTalk_210 _ _ _ _ _ ?_
    simp (maxSteps := 1000000) (disch := omega) only [g_R_goThroughTalk_210, slk, List.map_cons, List.map_nil, List.sum_cons, List.sum_nil, vc_i, vc_r, vc_n, vc_l, vc_o, Nat.add_zero, kO_e, kA_e, hdO_a, eq_self, blk, stp, lg, ls0, lk, ls1, ls2, kI_i, kL_l, kR_r, kR_n, kR_o, s1I_i, s2I_i, s1L_l, s2L_l, s1R_r, s1R_n, s1R_o, s1A_a, cmpc, popn, swt, rf_s, rf_n, cat_i, cat_r, cat_n, cat_l, true_and, and_true, List.length_cons, List.length_nil, Nat.zero_add, Int.reduceToNat, Nat.reduceAdd, Nat.reduceDiv, Nat.reduceMod, Nat.reduceMul, Nat.reduceSub, Nat.reduceLeDiff, Nat.reduceLT, Nat.reduceEqDiff, ↓reduceIte, r_gr_wi, r_gl_wi, r_gk_wi, r_gn_wi, r_wi_eq, r_wi_ne, r_wi_nj, r_gi_wr, r_gl_wr, r_gk_wr, r_gn_wr, r_gr_wa, r_gl_wa, r_gk_wa, r_gn_wa, u_lt, u_le, u_gt, u_ge, u_lt0, u_le0, u_gt0, u_ge0, Classical.not_not, not_true_eq_false, not_false_eq_true, oi_n, oi_m, n_dec, nI_add, pk_mul, n_sub, n_eq, n_le, n_lt, n_eq0, n_lt0, n_le0, n_0lt, n_0le, n_eqm, m_eqn, n_ltm, n_and, n_or, n_xor, n_shl, n_shr, tb1, tb0, bP_1, bP_0, bP_n0, ix_n, inb_n, u_eq, u_eqm, k107 WH.1]
    refine ⟨_, _, _, c_R_isSilent WH KH TT SH T hm dok.2.2.1, ⟨by omega, by omega⟩, ?_⟩
    rintro r H2 ⟨rfl, F2⟩
    have F3 : Ft [31, 32, 33, 34, 35, 36, 37, 40, 53, 54, 55, 56, 60] [128, 129, 130, 131, 132, 133, 134, 135, 136, 137, 138, 139, 140, 143] h H2 := F.trans (F2.mono rfl)
    have W2 := F3.rw W rfl
    have T2 := F2.tk T rfl rfl
    have L2 := F2.lks L1 rfl (fun _ => rfl)
    have g55 : gi H2 107 55 = nI j := (F2.2.1 _ _ rfl).trans e55
    simp (maxSteps := 1000000) (disch := omega) only [slk, List.map_cons, List.map_nil, List.sum_cons, List.sum_nil, vc_i, vc_r, vc_n, vc_l, vc_o, Nat.add_zero, kO_e, kA_e, hdO_a, eq_self, blk, stp, lg, ls0, lk, ls1, ls2, kI_i, kL_l, kR_r, kR_n, kR_o, s1I_i, s2I_i, s1L_l, s2L_l, s1R_r, s1R_n, s1R_o, s1A_a, cmpc, popn, swt, rf_s, rf_n, cat_i, cat_r, cat_n, cat_l, true_and, and_true, List.length_cons, List.length_nil, Nat.zero_add, Int.reduceToNat, Nat.reduceAdd, Nat.reduceDiv, Nat.reduceMod, Nat.reduceMul, Nat.reduceSub, Nat.reduceLeDiff, Nat.reduceLT, Nat.reduceEqDiff, ↓reduceIte, r_gr_wi, r_gl_wi, r_gk_wi, r_gn_wi, r_wi_eq, r_wi_ne, r_wi_nj, r_gi_wr, r_gl_wr, r_gk_wr, r_gn_wr, r_gr_wa, r_gl_wa, r_gk_wa, r_gn_wa, u_lt, u_le, u_gt, u_ge, u_lt0, u_le0, u_gt0, u_ge0, Classical.not_not, not_true_eq_false, not_false_eq_true, oi_n, oi_m, n_dec, nI_add, pk_mul, n_sub, n_eq, n_le, n_lt, n_eq0, n_lt0, n_le0, n_0lt, n_0le, n_eqm, m_eqn, n_ltm, n_and, n_or, n_xor, n_shl, n_shr, tb1, tb0, bP_1, bP_0, bP_n0, ix_n, inb_n, u_eq, u_eqm, k107 WH.1]
    refine ⟨fun w => ?_, fun w => ?_⟩
    · refine hP.1 _ _ s_R_goThroughTalk_224 _ _ _ _ _ ?_
      simp (maxSteps := 1000000) (disch := omega) only [g_R_goThroughTalk_224, slk, List.map_cons, List.map_nil, List.sum_cons, List.sum_nil, vc_i, vc_r, vc_n, vc_l, vc_o, Nat.add_zero, kO_e, kA_e, hdO_a, eq_self, blk, stp, lg, ls0, lk, ls1, ls2, kI_i, kL_l, kR_r, kR_n, kR_o, s1I_i, s2I_i, s1L_l, s2L_l, s1R_r, s1R_n, s1R_o, s1A_a, cmpc, popn, swt, rf_s, rf_n, cat_i, cat_r, cat_n, cat_l, true_and, and_true, List.length_cons, List.length_nil, Nat.zero_add, Int.reduceToNat, Nat.reduceAdd, Nat.reduceDiv, Nat.reduceMod, Nat.reduceMul, Nat.reduceSub, Nat.reduceLeDiff, Nat.reduceLT, Nat.reduceEqDiff, ↓reduceIte, r_gr_wi, r_gl_wi, r_gk_wi, r_gn_wi, r_wi_eq, r_wi_ne, r_wi_nj, r_gi_wr, r_gl_wr, r_gk_wr, r_gn_wr, r_gr_wa, r_gl_wa, r_gk_wa, r_gn_wa, u_lt, u_le, u_gt, u_ge, u_lt0, u_le0, u_gt0, u_ge0, Classical.not_not, not_true_eq_false, not_false_eq_true, oi_n, oi_m, n_dec, nI_add, pk_mul, n_sub, n_eq, n_le, n_lt, n_eq0, n_lt0, n_le0, n_0lt, n_0le, n_eqm, m_eqn, n_ltm, n_and, n_or, n_xor, n_shl, n_shr, tb1, tb0, bP_1, bP_0, bP_n0, ix_n, inb_n, u_eq, u_eqm]
      refine hP.1 _ _ s_R_goThroughTalk_225 _ _ _ _ _ ?_
      simp (maxSteps := 1000000) (disch := omega) only [g_R_goThroughTalk_225, slk, List.map_cons, List.map_nil, List.sum_cons, List.sum_nil, vc_i, vc_r, vc_n, vc_l, vc_o, Nat.add_zero, kO_e, kA_e, hdO_a, eq_self, blk, stp, lg, ls0, lk, ls1, ls2, kI_i, kL_l, kR_r, kR_n, kR_o, s1I_i, s2I_i, s1L_l, s2L_l, s1R_r, s1R_n, s1R_o, s1A_a, cmpc, popn, swt, rf_s, rf_n, cat_i, cat_r, cat_n, cat_l, true_and, and_true, List.length_cons, List.length_nil, Nat.zero_add, Int.reduceToNat, Nat.reduceAdd, Nat.reduceDiv, Nat.reduceMod, Nat.reduceMul, Nat.reduceSub, Nat.reduceLeDiff, Nat.reduceLT, Nat.reduceEqDiff, ↓reduceIte, r_gr_wi, r_gl_wi, r_gk_wi, r_gn_wi, r_wi_eq, r_wi_ne, r_wi_nj, r_gi_wr, r_gl_wr, r_gk_wr, r_gn_wr, r_gr_wa, r_gl_wa, r_gk_wa, r_gn_wa, u_lt, u_le, u_gt, u_ge, u_lt0, u_le0, u_gt0, u_ge0, Classical.not_not, not_true_eq_false, not_false_eq_true, oi_n, oi_m, n_dec, nI_add, pk_mul, n_sub, n_eq, n_le, n_lt, n_eq0, n_lt0, n_le0, n_0lt, n_0le, n_eqm, m_eqn, n_ltm, n_and, n_or, n_xor, n_shl, n_shr, tb1, tb0, bP_1, bP_0, bP_n0, ix_n, inb_n, u_eq, u_eqm, k107 W2.1]
      have Fw : Fx [54] [] H2 (wi H2 107 54 (nI 0)) := (Fx.refl _ _ _).wi _ rfl
      exact over 0 _ _ (by unfold endA; rw [ifO_t q, nif_f w]) (F3.trans (Fw.ft.mono rfl)) (Fw.ft.tk T2 rfl rfl) (Fw.ft.lks L2 rfl (fun _ => rfl)) ((Fw.2 _ _ rfl).trans g55) (r_wi_eq _ _ _ _) (by omega)
    · refine hP.1 _ _ s_R_goThroughTalk_220 _ _ _ _ _ ?_
      simp (maxSteps := 1000000) (disch := omega) only [g_R_goThroughTalk_220, slk, List.map_cons, List.map_nil, List.sum_cons, List.sum_nil, vc_i, vc_r, vc_n, vc_l, vc_o, Nat.add_zero, kO_e, kA_e, hdO_a, eq_self, blk, stp, lg, ls0, lk, ls1, ls2, kI_i, kL_l, kR_r, kR_n, kR_o, s1I_i, s2I_i, s1L_l, s2L_l, s1R_r, s1R_n, s1R_o, s1A_a, cmpc, popn, swt, rf_s, rf_n, cat_i, cat_r, cat_n, cat_l, true_and, and_true, List.length_cons, List.length_nil, Nat.zero_add, Int.reduceToNat, Nat.reduceAdd, Nat.reduceDiv, Nat.reduceMod, Nat.reduceMul, Nat.reduceSub, Nat.reduceLeDiff, Nat.reduceLT, Nat.reduceEqDiff, ↓reduceIte, r_gr_wi, r_gl_wi, r_gk_wi, r_gn_wi, r_wi_eq, r_wi_ne, r_wi_nj, r_gi_wr, r_gl_wr, r_gk_wr, r_gn_wr, r_gr_wa, r_gl_wa, r_gk_wa, r_gn_wa, u_lt, u_le, u_gt, u_ge, u_lt0, u_le0, u_gt0, u_ge0, Classical.not_not, not_true_eq_false, not_false_eq_true, oi_n, oi_m, n_dec, nI_add, pk_mul, n_sub, n_eq, n_le, n_lt, n_eq0, n_lt0, n_le0, n_0lt, n_0le, n_eqm, m_eqn, n_ltm, n_and, n_or, n_xor, n_shl, n_shr, tb1, tb0, bP_1, bP_0, bP_n0, ix_n, inb_n, u_eq, u_eqm]
      refine hP.1 _ _ s_R_goThroughTalk_225 _ _ _ _ _ ?_
      simp (maxSteps := 1000000) (disch := omega) only [g_R_goThroughTalk_225, slk, List.map_cons, List.map_nil, List.sum_cons, List.sum_nil, vc_i, vc_r, vc_n, vc_l, vc_o, Nat.add_zero, kO_e, kA_e, hdO_a, eq_self, blk, stp, lg, ls0, lk, ls1, ls2, kI_i, kL_l, kR_r, kR_n, kR_o, s1I_i, s2I_i, s1L_l, s2L_l, s1R_r, s1R_n, s1R_o, s1A_a, cmpc, popn, swt, rf_s, rf_n, cat_i, cat_r, cat_n, cat_l, true_and, and_true, List.length_cons, List.length_nil, Nat.zero_add, Int.reduceToNat, Nat.reduceAdd, Nat.reduceDiv, Nat.reduceMod, Nat.reduceMul, Nat.reduceSub, Nat.reduceLeDiff, Nat.reduceLT, Nat.reduceEqDiff, ↓reduceIte, r_gr_wi, r_gl_wi, r_gk_wi, r_gn_wi, r_wi_eq, r_wi_ne, r_wi_nj, r_gi_wr, r_gl_wr, r_gk_wr, r_gn_wr, r_gr_wa, r_gl_wa, r_gk_wa, r_gn_wa, u_lt, u_le, u_gt, u_ge, u_lt0, u_le0, u_gt0, u_ge0, Classical.not_not, not_true_eq_false, not_false_eq_true, oi_n, oi_m, n_dec, nI_add, pk_mul, n_sub, n_eq, n_le, n_lt, n_eq0, n_lt0, n_le0, n_0lt, n_0le, n_eqm, m_eqn, n_ltm, n_and, n_or, n_xor, n_shl, n_shr, tb1, tb0, bP_1, bP_0, bP_n0, ix_n, inb_n, u_eq, u_eqm, k107 W2.1]
      have Fw : Fx [54] [] H2 (wi H2 107 54 (nI 3)) := (Fx.refl _ _ _).wi _ rfl
      exact over 3 _ _ (by unfold endA; rw [ifO_t q, nif_t w]) (F3.trans (Fw.ft.mono rfl)) (Fw.ft.tk T2 rfl rfl) (Fw.ft.lks L2 rfl (fun _ => rfl)) ((Fw.2 _ _ rfl).trans g55) (r_wi_eq _ _ _ _) (by omega)
end
