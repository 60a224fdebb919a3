/-! ===== the reference goes through a talk; through those below ===== -/
section
variable {h : AH} {s : St} {d : Nat}
theorem c_R_goThroughTalk (W : RH h s) (K : SK h) (TT : TO s) (S : SE h s) {ed rs : Nat → Nat} {m : Nat} {ls : List Lk} (EE : EO h ed rs m) (L0 : LKs h ls) (hm : m < s 107 19) (h61 : s 107 61 < 4294967296) (hls : s 107 61 < 8 → ls.length = 0) : Mz (d + 36) 119 [.ref 107, .int (nI m)] h 0 0 (PY s ed rs m ls h) := by
  have h1 := rs_m W
  have lb := ldN_b s m
  have g1 := isPr_lt W hm (rs_gr W hm)
  refine mz_in (l := [some (.ref 107), some (.int (nI m)), none, none, none, none]) mk_R_goThroughTalk n_R_goThroughTalk rfl l_R_goThroughTalk rfl (Nat.le_of_ble_eq_true rfl) fun P hP => ?_
  -- the days
  have days : ∀ n j H, 1 ≤ j → j + n = 31 → j ≤ ldN s m → tlS s ed rs m ls = tlF s ed rs m ls n j → Ft [31, 32, 33, 34, 35, 36, 37, 40, 53, 54, 55, 56, 60] [128, 129, 130, 131, 132, 133, 134, 135, 136, 137, 138, 139, 140, 143] h H → TK H (dE s ed rs m ls (j - 1)).1 (dE s ed rs m ls (j - 1)).2.1 → LKs H (dE s ed rs m ls (j - 1)).2.2.2 → gi H 107 54 = -1 → (∀ b, 1 ≤ b → b < j → DK H (wdG s ed rs m ls) (wdF s ed rs m ls) (wdN s ed rs m ls) b) → P 77 [some (.ref 107), some (.int (nI m)), some (.int (nI (ldN s m))), some (.int (nI j)), none, none] [] H 0 0 := by
    intro n
    induction n with
    | zero => exact fun j H h1 h2 h3 => absurd h3 (by omega)
    | succ n ih =>
      intro j H hj1 hjn hjl er F T L1 e54 DD
      obtain ⟨j', rfl⟩ : ∃ j', j = j' + 1 := ⟨j - 1, by omega⟩
      rw [Nat.add_sub_cancel] at T L1
      have WH := F.rw W rfl
      refine hP.1 _ _ s_R_goThroughTalk_77 _ _ _ _ _ ?_
      simp (maxSteps := 1000000) (disch := omega) only [g_R_goThroughTalk_77, slk, List.map_cons, List.map_nil, List.sum_cons, List.sum_nil, vc_i, vc_r, vc_n, vc_l, vc_o, Nat.add_zero, kO_e, kA_e, hdO_a, eq_self, blk, stp, lg, ls0, lk, ls1, ls2, kI_i, kL_l, kR_r, kR_n, kR_o, s1I_i, s2I_i, s1L_l, s2L_l, s1R_r, s1R_n, s1R_o, s1A_a, cmpc, popn, swt, rf_s, rf_n, cat_i, cat_r, cat_n, cat_l, true_and, and_true, List.length_cons, List.length_nil, Nat.zero_add, Int.reduceToNat, Nat.reduceAdd, Nat.reduceDiv, Nat.reduceMod, Nat.reduceMul, Nat.reduceSub, Nat.reduceLeDiff, Nat.reduceLT, Nat.reduceEqDiff, ↓reduceIte, r_gr_wi, r_gl_wi, r_gk_wi, r_gn_wi, r_wi_eq, r_wi_ne, r_wi_nj, r_gi_wr, r_gl_wr, r_gk_wr, r_gn_wr, r_gr_wa, r_gl_wa, r_gk_wa, r_gn_wa, u_lt, u_le, u_gt, u_ge, u_lt0, u_le0, u_gt0, u_ge0, Classical.not_not, not_true_eq_false, not_false_eq_true, oi_n, oi_m, n_dec, nI_add, pk_mul, n_sub, n_eq, n_le, n_lt, n_eq0, n_lt0, n_le0, n_0lt, n_0le, n_eqm, m_eqn, n_ltm, n_and, n_or, n_xor, n_shl, n_shr, tb1, tb0, bP_1, bP_0, bP_n0, ix_n, inb_n, u_eq, u_eqm, k107 WH.1, e54]
      refine ⟨fun q => by first | exact q.elim | exact absurd rfl q, fun _ => ?_⟩
      refine hP.1 _ _ s_R_goThroughTalk_85 _ _ _ _ _ ?_
      simp (maxSteps := 1000000) (disch := omega) only [g_R_goThroughTalk_85, slk, List.map_cons, List.map_nil, List.sum_cons, List.sum_nil, vc_i, vc_r, vc_n, vc_l, vc_o, Nat.add_zero, kO_e, kA_e, hdO_a, eq_self, blk, stp, lg, ls0, lk, ls1, ls2, kI_i, kL_l, kR_r, kR_n, kR_o, s1I_i, s2I_i, s1L_l, s2L_l, s1R_r, s1R_n, s1R_o, s1A_a, cmpc, popn, swt, rf_s, rf_n, cat_i, cat_r, cat_n, cat_l, true_and, and_true, List.length_cons, List.length_nil, Nat.zero_add, Int.reduceToNat, Nat.reduceAdd, Nat.reduceDiv, Nat.reduceMod, Nat.reduceMul, Nat.reduceSub, Nat.reduceLeDiff, Nat.reduceLT, Nat.reduceEqDiff, ↓reduceIte, r_gr_wi, r_gl_wi, r_gk_wi, r_gn_wi, r_wi_eq, r_wi_ne, r_wi_nj, r_gi_wr, r_gl_wr, r_gk_wr, r_gn_wr, r_gr_wa, r_gl_wa, r_gk_wa, r_gn_wa, u_lt, u_le, u_gt, u_ge, u_lt0, u_le0, u_gt0, u_ge0, Classical.not_not, not_true_eq_false, not_false_eq_true, oi_n, oi_m, n_dec, nI_add, pk_mul, n_sub, n_eq, n_le, n_lt, n_eq0, n_lt0, n_le0, n_0lt, n_0le, n_eqm, m_eqn, n_ltm, n_and, n_or, n_xor, n_shl, n_shr, tb1, tb0, bP_1, bP_0, bP_n0, ix_n, inb_n, u_eq, u_eqm, k107 WH.1, e54]
      have Fw : Fx [55] [] H (wi H 107 55 (nI (j' + 1))) := (Fx.refl _ _ _).wi _ rfl
      refine gt_seats (d := d) W K TT S EE hm h61 hls hP (j := j') (by omega) (ldN s m) (wdG s ed rs m ls) (wdF s ed rs m ls) (wdN s ed rs m ls) ?_ (sn s) 0 _ (Nat.zero_add _) (F.trans (Fw.ft.mono rfl)) (Fw.ft.tk T rfl rfl) (Fw.ft.lks L1 rfl (fun _ => rfl)) ((Fw.2 _ _ rfl).trans e54) (r_wi_eq _ _ _ _) (fun b b1 b2 => Fw.ft.dk (DD b b1 b2) (fun _ => rfl) (fun _ => rfl) (fun _ => rfl))
      intro H2 F2 T2 L2 f54 f55 D2
      refine gt_note (d := d) W hm hP (j := j' + 1) (by omega) (by omega) (ldN s m) _ ?_ F2 T2 L2 f54 f55 D2 _
      intro H3 F3 T3 L3 g54 g55 D3 x
      refine gt_end (d := d) W K TT S hm hP (j := j' + 1) (n := n) (by omega) (by omega) hjl er ?_ F3 T3 L3 g54 g55 D3 x
      intro ea H4 F4 T4 L4 k54 D4
      have nl : ¬ j' + 1 = ldN s m := by
        intro q
        by_cases q2 : (dE s ed rs m ls (j' + 1)).2.2.1 = 0
        · have : endA s ed rs m ls (j' + 1) = some _ := ifO_t q2
          rw [ea] at this
          cases this
        · have : endA s ed rs m ls (j' + 1) = some 1 := (ifO_f q2).trans (ifO_t q)
          rw [ea] at this
          cases this
      refine ih (j' + 2) H4 (by omega) (by omega) (by omega) (er.trans ?_) F4 T4 L4 k54 D4
      show (match endA s ed rs m ls (j' + 1) with | some c => (j' + 1, c) | none => tlF s ed rs m ls n (j' + 1 + 1)) = _
      rw [ea]
  have last : ∀ H, Ft [31, 32, 33, 34, 35, 36, 37, 40, 53, 54, 55, 56, 60] [128, 129, 130, 131, 132, 133, 134, 135, 136, 137, 138, 139, 140, 143] h H → TK H [] (s 117 m) → LKs H ls → ∀ x, P 64 [some (.ref 107), some (.int (nI m)), x, none, none, none] [] H 0 0 := by
    intro H F T L1 x
    have WH := F.rw W rfl
    have KH := F.sk K rfl
    have SH := F.se S rfl (fun _ => rfl)
    refine hP.1 _ _ s_R_goThroughTalk_64 _ _ _ _ _ ?_
    simp (maxSteps := 1000000) (disch := omega) only [g_R_goThroughTalk_64, slk, List.map_cons, List.map_nil, List.sum_cons, List.sum_nil, vc_i, vc_r, vc_n, vc_l, vc_o, Nat.add_zero, kO_e, kA_e, hdO_a, eq_self, blk, stp, lg, ls0, lk, ls1, ls2, kI_i, kL_l, kR_r, kR_n, kR_o, s1I_i, s2I_i, s1L_l, s2L_l, s1R_r, s1R_n, s1R_o, s1A_a, cmpc, popn, swt, rf_s, rf_n, cat_i, cat_r, cat_n, cat_l, true_and, and_true, List.length_cons, List.length_nil, Nat.zero_add, Int.reduceToNat, Nat.reduceAdd, Nat.reduceDiv, Nat.reduceMod, Nat.reduceMul, Nat.reduceSub, Nat.reduceLeDiff, Nat.reduceLT, Nat.reduceEqDiff, ↓reduceIte, r_gr_wi, r_gl_wi, r_gk_wi, r_gn_wi, r_wi_eq, r_wi_ne, r_wi_nj, r_gi_wr, r_gl_wr, r_gk_wr, r_gn_wr, r_gr_wa, r_gl_wa, r_gk_wa, r_gn_wa, u_lt, u_le, u_gt, u_ge, u_lt0, u_le0, u_gt0, u_ge0, Classical.not_not, not_true_eq_false, not_false_eq_true, oi_n, oi_m, n_dec, nI_add, pk_mul, n_sub, n_eq, n_le, n_lt, n_eq0, n_lt0, n_le0, n_0lt, n_0le, n_eqm, m_eqn, n_ltm, n_and, n_or, n_xor, n_shl, n_shr, tb1, tb0, bP_1, bP_0, bP_n0, ix_n, inb_n, u_eq, u_eqm, k107 WH.1]
    refine ⟨_, _, _, c_R_lastDay WH KH TT SH hm, ⟨by omega, by omega⟩, ?_⟩
    rintro r H2 ⟨rfl, F2⟩
    have F3 : Ft [31, 32, 33, 34, 35, 36, 37, 40, 53, 54, 55, 56, 60] [128, 129, 130, 131, 132, 133, 134, 135, 136, 137, 138, 139, 140, 143] h H2 := F.trans (F2.mono rfl)
    have W2 := F3.rw W rfl
    have T2 := F2.tk T rfl rfl
    have L2 := F2.lks L1 rfl (fun _ => rfl)
    simp (maxSteps := 1000000) (disch := omega) only [slk, List.map_cons, List.map_nil, List.sum_cons, List.sum_nil, vc_i, vc_r, vc_n, vc_l, vc_o, Nat.add_zero, kO_e, kA_e, hdO_a, eq_self, blk, stp, lg, ls0, lk, ls1, ls2, kI_i, kL_l, kR_r, kR_n, kR_o, s1I_i, s2I_i, s1L_l, s2L_l, s1R_r, s1R_n, s1R_o, s1A_a, cmpc, popn, swt, rf_s, rf_n, cat_i, cat_r, cat_n, cat_l, true_and, and_true, List.length_cons, List.length_nil, Nat.zero_add, Int.reduceToNat, Nat.reduceAdd, Nat.reduceDiv, Nat.reduceMod, Nat.reduceMul, Nat.reduceSub, Nat.reduceLeDiff, Nat.reduceLT, Nat.reduceEqDiff, ↓reduceIte, r_gr_wi, r_gl_wi, r_gk_wi, r_gn_wi, r_wi_eq, r_wi_ne, r_wi_nj, r_gi_wr, r_gl_wr, r_gk_wr, r_gn_wr, r_gr_wa, r_gl_wa, r_gk_wa, r_gn_wa, u_lt, u_le, u_gt, u_ge, u_lt0, u_le0, u_gt0, u_ge0, Classical.not_not, not_true_eq_false, not_false_eq_true, oi_n, oi_m, n_dec, nI_add, pk_mul, n_sub, n_eq, n_le, n_lt, n_eq0, n_lt0, n_le0, n_0lt, n_0le, n_eqm, m_eqn, n_ltm, n_and, n_or, n_xor, n_shl, n_shr, tb1, tb0, bP_1, bP_0, bP_n0, ix_n, inb_n, u_eq, u_eqm, k107 WH.1, k107 W2.1]
    have Fw : Fx [54] [] H2 (wi H2 107 54 (-1)) := (Fx.refl _ _ _).wi _ rfl
    exact days 30 1 _ (Nat.le_refl _) rfl lb.1 rfl (F3.trans (Fw.ft.mono rfl)) (Fw.ft.tk T2 rfl rfl) (Fw.ft.lks L2 rfl (fun _ => rfl)) (r_wi_eq _ _ _ _) (fun b b1 b2 => absurd b1 (by omega))
  have zero2 : ∀ n k H, k + n = 8 → Ft [31, 32, 33, 34, 35, 36, 37, 40, 53, 54, 55, 56, 60] [128, 129, 130, 131, 132, 133, 134, 135, 136, 137, 138, 139, 140, 143] h H → gi H 107 53 = nI 0 → gi H 107 56 = nI (s 117 m) → LKs H ls → (∀ i, i < 20 → gi H 135 i = nI 0 ∧ gi H 136 i = nI 0) → (∀ i, i < k → gi H 137 i = nI 0) → P 45 [some (.ref 107), some (.int (nI m)), some (.int (nI k)), none, none, none] [] H 0 0 := by
    intro n
    induction n using Nat.strongRecOn with
    | _ n ih =>
      intro k H hk F e53 e56 L1 hz hI
      have WH := F.rw W rfl
      refine hP.1 _ _ s_R_goThroughTalk_45 _ _ _ _ _ ?_
      simp (maxSteps := 1000000) (disch := omega) only [g_R_goThroughTalk_45, slk, List.map_cons, List.map_nil, List.sum_cons, List.sum_nil, vc_i, vc_r, vc_n, vc_l, vc_o, Nat.add_zero, kO_e, kA_e, hdO_a, eq_self, blk, stp, lg, ls0, lk, ls1, ls2, kI_i, kL_l, kR_r, kR_n, kR_o, s1I_i, s2I_i, s1L_l, s2L_l, s1R_r, s1R_n, s1R_o, s1A_a, cmpc, popn, swt, rf_s, rf_n, cat_i, cat_r, cat_n, cat_l, true_and, and_true, List.length_cons, List.length_nil, Nat.zero_add, Int.reduceToNat, Nat.reduceAdd, Nat.reduceDiv, Nat.reduceMod, Nat.reduceMul, Nat.reduceSub, Nat.reduceLeDiff, Nat.reduceLT, Nat.reduceEqDiff, ↓reduceIte, r_gr_wi, r_gl_wi, r_gk_wi, r_gn_wi, r_wi_eq, r_wi_ne, r_wi_nj, r_gi_wr, r_gl_wr, r_gk_wr, r_gn_wr, r_gr_wa, r_gl_wa, r_gk_wa, r_gn_wa, u_lt, u_le, u_gt, u_ge, u_lt0, u_le0, u_gt0, u_ge0, Classical.not_not, not_true_eq_false, not_false_eq_true, oi_n, oi_m, n_dec, nI_add, pk_mul, n_sub, n_eq, n_le, n_lt, n_eq0, n_lt0, n_le0, n_0lt, n_0le, n_eqm, m_eqn, n_ltm, n_and, n_or, n_xor, n_shl, n_shr, tb1, tb0, bP_1, bP_0, bP_n0, ix_n, inb_n, u_eq, u_eqm]
      refine ⟨fun hc => ?_, fun hc => ?_⟩
      · refine last H F ⟨⟨e53, e56⟩, fun k hk => absurd hk (Nat.not_lt_zero _), fun p w hp hw => hz _ (by omega), fun e he => hI e (by omega)⟩ L1 _
      · skip
        refine hP.1 _ _ s_R_goThroughTalk_51 _ _ _ _ _ ?_
        simp (maxSteps := 1000000) (disch := omega) only [g_R_goThroughTalk_51, slk, List.map_cons, List.map_nil, List.sum_cons, List.sum_nil, vc_i, vc_r, vc_n, vc_l, vc_o, Nat.add_zero, kO_e, kA_e, hdO_a, eq_self, blk, stp, lg, ls0, lk, ls1, ls2, kI_i, kL_l, kR_r, kR_n, kR_o, s1I_i, s2I_i, s1L_l, s2L_l, s1R_r, s1R_n, s1R_o, s1A_a, cmpc, popn, swt, rf_s, rf_n, cat_i, cat_r, cat_n, cat_l, true_and, and_true, List.length_cons, List.length_nil, Nat.zero_add, Int.reduceToNat, Nat.reduceAdd, Nat.reduceDiv, Nat.reduceMod, Nat.reduceMul, Nat.reduceSub, Nat.reduceLeDiff, Nat.reduceLT, Nat.reduceEqDiff, ↓reduceIte, r_gr_wi, r_gl_wi, r_gk_wi, r_gn_wi, r_wi_eq, r_wi_ne, r_wi_nj, r_gi_wr, r_gl_wr, r_gk_wr, r_gn_wr, r_gr_wa, r_gl_wa, r_gk_wa, r_gn_wa, u_lt, u_le, u_gt, u_ge, u_lt0, u_le0, u_gt0, u_ge0, Classical.not_not, not_true_eq_false, not_false_eq_true, oi_n, oi_m, n_dec, nI_add, pk_mul, n_sub, n_eq, n_le, n_lt, n_eq0, n_lt0, n_le0, n_0lt, n_0le, n_eqm, m_eqn, n_ltm, n_and, n_or, n_xor, n_shl, n_shr, tb1, tb0, bP_1, bP_0, bP_n0, ix_n, inb_n, u_eq, u_eqm, k107 WH.1, f107_49 WH.1, k137 WH.1, k137 WH.1]
        have Fw : Fx [] [137] H (wi H 137 k (nI 0)) := (Fx.refl _ _ _).wi _ rfl
        refine ih (n - 1) (by omega) (k + 1) _ (by omega) (F.trans (Fw.ft.mono rfl)) ((Fw.2 _ _ rfl).trans e53) ((Fw.2 _ _ rfl).trans e56) (Fw.ft.lks L1 rfl (fun _ => rfl)) (fun i hi => ⟨(Fw.2 _ _ rfl).trans (hz i hi).1, (Fw.2 _ _ rfl).trans (hz i hi).2⟩) ?_
        intro i hi
        by_cases q : i = k
        · subst q
          exact r_wi_eq _ _ _ _
        · simp (disch := omega) only [r_wi_nj]
          exact hI i (by omega)
  have zero1 : ∀ n k H, k + n = 20 → Ft [31, 32, 33, 34, 35, 36, 37, 40, 53, 54, 55, 56, 60] [128, 129, 130, 131, 132, 133, 134, 135, 136, 137, 138, 139, 140, 143] h H → gi H 107 53 = nI 0 → gi H 107 56 = nI (s 117 m) → LKs H ls → (∀ i, i < k → gi H 135 i = nI 0 ∧ gi H 136 i = nI 0) → P 17 [some (.ref 107), some (.int (nI m)), some (.int (nI k)), none, none, none] [] H 0 0 := by
    intro n
    induction n using Nat.strongRecOn with
    | _ n ih =>
      intro k H hk F e53 e56 L1 hz
      have WH := F.rw W rfl
      refine hP.1 _ _ s_R_goThroughTalk_17 _ _ _ _ _ ?_
      simp (maxSteps := 1000000) (disch := omega) only [g_R_goThroughTalk_17, slk, List.map_cons, List.map_nil, List.sum_cons, List.sum_nil, vc_i, vc_r, vc_n, vc_l, vc_o, Nat.add_zero, kO_e, kA_e, hdO_a, eq_self, blk, stp, lg, ls0, lk, ls1, ls2, kI_i, kL_l, kR_r, kR_n, kR_o, s1I_i, s2I_i, s1L_l, s2L_l, s1R_r, s1R_n, s1R_o, s1A_a, cmpc, popn, swt, rf_s, rf_n, cat_i, cat_r, cat_n, cat_l, true_and, and_true, List.length_cons, List.length_nil, Nat.zero_add, Int.reduceToNat, Nat.reduceAdd, Nat.reduceDiv, Nat.reduceMod, Nat.reduceMul, Nat.reduceSub, Nat.reduceLeDiff, Nat.reduceLT, Nat.reduceEqDiff, ↓reduceIte, r_gr_wi, r_gl_wi, r_gk_wi, r_gn_wi, r_wi_eq, r_wi_ne, r_wi_nj, r_gi_wr, r_gl_wr, r_gk_wr, r_gn_wr, r_gr_wa, r_gl_wa, r_gk_wa, r_gn_wa, u_lt, u_le, u_gt, u_ge, u_lt0, u_le0, u_gt0, u_ge0, Classical.not_not, not_true_eq_false, not_false_eq_true, oi_n, oi_m, n_dec, nI_add, pk_mul, n_sub, n_eq, n_le, n_lt, n_eq0, n_lt0, n_le0, n_0lt, n_0le, n_eqm, m_eqn, n_ltm, n_and, n_or, n_xor, n_shl, n_shr, tb1, tb0, bP_1, bP_0, bP_n0, ix_n, inb_n, u_eq, u_eqm]
      refine ⟨fun hc => ?_, fun hc => ?_⟩
      · refine hP.1 _ _ s_R_goThroughTalk_43 _ _ _ _ _ ?_
        simp (maxSteps := 1000000) (disch := omega) only [g_R_goThroughTalk_43, slk, List.map_cons, List.map_nil, List.sum_cons, List.sum_nil, vc_i, vc_r, vc_n, vc_l, vc_o, Nat.add_zero, kO_e, kA_e, hdO_a, eq_self, blk, stp, lg, ls0, lk, ls1, ls2, kI_i, kL_l, kR_r, kR_n, kR_o, s1I_i, s2I_i, s1L_l, s2L_l, s1R_r, s1R_n, s1R_o, s1A_a, cmpc, popn, swt, rf_s, rf_n, cat_i, cat_r, cat_n, cat_l, true_and, and_true, List.length_cons, List.length_nil, Nat.zero_add, Int.reduceToNat, Nat.reduceAdd, Nat.reduceDiv, Nat.reduceMod, Nat.reduceMul, Nat.reduceSub, Nat.reduceLeDiff, Nat.reduceLT, Nat.reduceEqDiff, ↓reduceIte, r_gr_wi, r_gl_wi, r_gk_wi, r_gn_wi, r_wi_eq, r_wi_ne, r_wi_nj, r_gi_wr, r_gl_wr, r_gk_wr, r_gn_wr, r_gr_wa, r_gl_wa, r_gk_wa, r_gn_wa, u_lt, u_le, u_gt, u_ge, u_lt0, u_le0, u_gt0, u_ge0, Classical.not_not, not_true_eq_false, not_false_eq_true, oi_n, oi_m, n_dec, nI_add, pk_mul, n_sub, n_eq, n_le, n_lt, n_eq0, n_lt0, n_le0, n_0lt, n_0le, n_eqm, m_eqn, n_ltm, n_and, n_or, n_xor, n_shl, n_shr, tb1, tb0, bP_1, bP_0, bP_n0, ix_n, inb_n, u_eq, u_eqm]
        exact zero2 8 0 H rfl F e53 e56 L1 (fun i hi => hz i (by omega)) (fun i hi => absurd hi (Nat.not_lt_zero _))
      · skip
        refine hP.1 _ _ s_R_goThroughTalk_23 _ _ _ _ _ ?_
        simp (maxSteps := 1000000) (disch := omega) only [g_R_goThroughTalk_23, slk, List.map_cons, List.map_nil, List.sum_cons, List.sum_nil, vc_i, vc_r, vc_n, vc_l, vc_o, Nat.add_zero, kO_e, kA_e, hdO_a, eq_self, blk, stp, lg, ls0, lk, ls1, ls2, kI_i, kL_l, kR_r, kR_n, kR_o, s1I_i, s2I_i, s1L_l, s2L_l, s1R_r, s1R_n, s1R_o, s1A_a, cmpc, popn, swt, rf_s, rf_n, cat_i, cat_r, cat_n, cat_l, true_and, and_true, List.length_cons, List.length_nil, Nat.zero_add, Int.reduceToNat, Nat.reduceAdd, Nat.reduceDiv, Nat.reduceMod, Nat.reduceMul, Nat.reduceSub, Nat.reduceLeDiff, Nat.reduceLT, Nat.reduceEqDiff, ↓reduceIte, r_gr_wi, r_gl_wi, r_gk_wi, r_gn_wi, r_wi_eq, r_wi_ne, r_wi_nj, r_gi_wr, r_gl_wr, r_gk_wr, r_gn_wr, r_gr_wa, r_gl_wa, r_gk_wa, r_gn_wa, u_lt, u_le, u_gt, u_ge, u_lt0, u_le0, u_gt0, u_ge0, Classical.not_not, not_true_eq_false, not_false_eq_true, oi_n, oi_m, n_dec, nI_add, pk_mul, n_sub, n_eq, n_le, n_lt, n_eq0, n_lt0, n_le0, n_0lt, n_0le, n_eqm, m_eqn, n_ltm, n_and, n_or, n_xor, n_shl, n_shr, tb1, tb0, bP_1, bP_0, bP_n0, ix_n, inb_n, u_eq, u_eqm, k107 WH.1, f107_47 WH.1, k135 WH.1, f107_48 WH.1, k136 WH.1, k135 WH.1, k136 WH.1]
        have Fw : Fx [] [135, 136] H (wi (wi H 135 k (nI 0)) 136 k (nI 0)) := ((Fx.refl _ _ _).wi _ rfl).wi _ rfl
        refine ih (n - 1) (by omega) (k + 1) _ (by omega) (F.trans (Fw.ft.mono rfl)) ((Fw.2 _ _ rfl).trans e53) ((Fw.2 _ _ rfl).trans e56) (Fw.ft.lks L1 rfl (fun _ => rfl)) ?_
        intro i hi
        by_cases q : i = k
        · subst q
          constructor <;> simp (disch := omega) only [r_wi_eq, r_wi_ne]
        · simp (disch := omega) only [r_wi_ne, r_wi_nj]
          exact hz i (by omega)
  refine hP.1 _ _ s_R_goThroughTalk_0 _ _ _ _ _ ?_
  simp (maxSteps := 1000000) (disch := omega) only [g_R_goThroughTalk_0, slk, List.map_cons, List.map_nil, List.sum_cons, List.sum_nil, vc_i, vc_r, vc_n, vc_l, vc_o, Nat.add_zero, kO_e, kA_e, hdO_a, eq_self, blk, stp, lg, ls0, lk, ls1, ls2, kI_i, kL_l, kR_r, kR_n, kR_o, s1I_i, s2I_i, s1L_l, s2L_l, s1R_r, s1R_n, s1R_o, s1A_a, cmpc, popn, swt, rf_s, rf_n, cat_i, cat_r, cat_n, cat_l, true_and, and_true, List.length_cons, List.length_nil, Nat.zero_add, Int.reduceToNat, Nat.reduceAdd, Nat.reduceDiv, Nat.reduceMod, Nat.reduceMul, Nat.reduceSub, Nat.reduceLeDiff, Nat.reduceLT, Nat.reduceEqDiff, ↓reduceIte, r_gr_wi, r_gl_wi, r_gk_wi, r_gn_wi, r_wi_eq, r_wi_ne, r_wi_nj, r_gi_wr, r_gl_wr, r_gk_wr, r_gn_wr, r_gr_wa, r_gl_wa, r_gk_wa, r_gn_wa, u_lt, u_le, u_gt, u_ge, u_lt0, u_le0, u_gt0, u_ge0, Classical.not_not, not_true_eq_false, not_false_eq_true, oi_n, oi_m, n_dec, nI_add, pk_mul, n_sub, n_eq, n_le, n_lt, n_eq0, n_lt0, n_le0, n_0lt, n_0le, n_eqm, m_eqn, n_ltm, n_and, n_or, n_xor, n_shl, n_shr, tb1, tb0, bP_1, bP_0, bP_n0, ix_n, inb_n, u_eq, u_eqm, k107 W.1, f107_10 W.1, k117 W.1, q117 W]
  have Fw : Fx [53, 56] [] h (wi (wi h 107 53 (nI 0)) 107 56 (nI (s 117 m))) := ((Fx.refl _ _ _).wi _ rfl).wi _ rfl
  exact zero1 20 0 _ rfl (Fw.ft.mono rfl) rfl rfl (Fw.ft.lks L0 rfl (fun _ => rfl)) (fun i hi => absurd hi (Nat.not_lt_zero _))
end
