/-! ===== the class's setters: grounds, laws, minds, the tape's end, clashes ===== -/
theorem n_T_by : mN 17 = 3 := rfl
theorem l_T_by : mL 17 = 4 := rfl
theorem r_T_by : mR 17 = some .boolean := rfl
theorem n_T_minded : mN 18 = 3 := rfl
theorem l_T_minded : mL 18 = 3 := rfl
theorem r_T_minded : mR 18 = some .boolean := rfl
theorem n_T_clash : mN 9 = 7 := rfl
theorem l_T_clash : mL 9 = 8 := rfl
theorem r_T_clash : mR 9 = some .boolean := rfl
theorem u_ltm {l : Nat} (hl : l < 4294967296) : (nI l < -1) = (2147483648 ≤ l ∧ ¬ l = 4294967295) := by
  rcases Nat.lt_or_ge l 2147483648 with q | q
  · rw [n_ltm q]
    exact propext ⟨fun z => z.elim, fun z => by omega⟩
  · have h1 := u_neg q hl
    rw [Int32.lt_iff_toInt_lt, h1]
    have : (-1 : Int32).toInt = -1 := by decide
    rw [this]
    exact propext ⟨fun z => ⟨q, by omega⟩, fun z => by omega⟩
section
variable {h : AH} {s : St} {d c : Nat} {bm : Nat → Nat}
/-- matters lie apart -/
theorem bo_far (I : CI h s bm c) {m m2 : Nat} (hm : m < s 107 19) (hm2 : m2 < s 107 19) (z : m2 ≠ m) : bm m2 + 14 < bm m ∨ bm m + 14 < bm m2 := by
  rcases Nat.lt_or_ge m2 m with y | y
  · exact Or.inl (ci_bo I m2 m y hm)
  · exact Or.inr (ci_bo I m m2 (by omega) hm2)
/-! grounds -/
theorem ci_ground (W : RH h s) {h2 : AH} (I : CI h2 s bm c) {m x : Nat} (hC : groundC s m x) (hc : c ≤ m) : CI (wi h2 (bm m) 9 (nI x)) (groundS s m x) bm c := by
  have b0 := rs_m W
  have g := (ci_L I).2.2
  have hm := hC.1
  have bb := ci_b I hm
  have c4 := (ci_ct I).2.2.2.2.2
  obtain ⟨H, eH⟩ : ∃ H, H = wi h2 (bm m) 9 (nI x) := ⟨_, rfl⟩
  rw [← eH]
  have FP : Fp (fun a => a = bm m) h2 H := by
    rw [eH]
    exact (Fp.refl (fun a => a = bm m) h2).wi rfl _ _
  have FB := FP.fg
  have pu := ci_pu I
  have go : ∀ i, i ≠ m → groundS s m x 117 i = s 117 i := fun i z => uS_o (fun y => z y.2)
  refine ⟨FB.lay (ci_L I) (fun a j y => by first | exact y.elim | (unfold isT; omega)), Fg.cc (s := s) FB g (ci_C I) (fun a q => by omega) (fun j y => (by first | exact y.elim | omega)) (fun j _ y => (by first | exact y.elim | omega)) (fun e he => rs_md W he), Fg.ct (s := s) FB g (ci_ct I) (fun q => by omega), ?_, (show BO s bm from ci_bo I), Fg.txa (s := s) FB g (ci_tx I) (fun t ht a q => by have := isTx_b (ci_tx I) ht; have := ci_dj I t ht m hm; omega) (fun t ht j y => by first | exact y.elim | (have := isTx_b (ci_tx I) ht; have := ci_dj I t ht m hm; omega)) (fun j _ y => (by first | exact y.elim | omega)) (fun j _ y => (by first | exact y.elim | omega)), Fg.dj (s := s) FB g (ci_dj I) (fun j _ y => (by first | exact y.elim | omega)) (fun j _ y => (by first | exact y.elim | omega)), Fg.tpc (s := s) FB g (ci_tp I) ⟨fun q => by omega, fun q => by omega⟩, Fg.plc (s := s) FB g (ci_pl I) (fun a q => by omega), Fg.gfc (s := s) FB g (ci_gf I) (by rw [FB.2.2.1 61 (by omega) (fun q => by omega)]) (fun a q => by omega), Fg.asc (s := s) FB g (ci_as I) (fun a q => by omega), Fg.twc (s := s) FB g (ci_tw I) (fun a ha q => by have := ta_b ha; unfold isT at ha; omega), std_ag W FB g (ci_ct I).2.2.2.2.2 (ci_st I) rfl (fun i hi => ⟨⟨rfl, fun _ => rfl⟩, ⟨rfl, rfl, go i (by omega)⟩, fun _ _ => rfl, fun _ _ _ _ => rfl, fun _ _ => rfl, fun _ _ _ _ _ _ => rfl, fun _ _ _ _ _ => Iff.rfl, fun _ => Iff.rfl, fun ed rs e => trI_c _ (fun k hk => ⟨rfl, rfl, fun _ => Iff.rfl⟩)⟩) (fun j hj => rfl) (fun j hj a q => by have e : tOf j = 75 + 8 * j := rfl; omega) (fun j hj y => y.elim), pu⟩
  intro m2 hm2
  have hm2' : m2 < s 107 19 := hm2
  obtain ⟨m1, mA, mV, mR⟩ := ci_m I m2 hm2'
  have b2 := ci_b I hm2'
  refine ⟨by rw [FP.gr]; exact m1, FP.ma mA, ?_, ?_⟩
  · by_cases z : m2 = m
    · subst z
      obtain ⟨⟨v1, v2, v3, v4⟩, v5, v6, v7, v8⟩ := mV
      have ne : ∀ a, a ≠ bm m2 → gi H a = gi h2 a := fun a z => FP.2 a z
      refine ⟨⟨?_, ?_, ?_, ?_⟩, fun y hy => ?_, fun y hy => ?_, fun y p hy hp => ?_, fun i hi => ?_⟩
      · rw [eH, r_wi_nj _ _ _ (by omega)]; exact v1
      · rw [eH, r_wi_nj _ _ _ (by omega)]; exact v2
      · rw [eH, r_wi_nj _ _ _ (by omega)]; exact v3
      · rw [eH, r_wi_eq, show groundS s m2 x 117 m2 = x from uS_k]
      · rw [ne _ (by omega)]; exact v5 y hy
      · rw [ne (bm m2 + 1) (by omega), ne (bm m2 + 2) (by omega)]; exact v6 y hy
      · rw [ne _ (by omega)]; exact v7 y p hy hp
      · rw [ne (bm m2 + 12) (by omega), ne (bm m2 + 13) (by omega)]; exact v8 i hi
    · have V := FP.mv mV (fun a q => by have q2 : a = bm m := q; have := bo_far I hm hm2' z; omega)
      refine ⟨⟨V.1.1, V.1.2.1, V.1.2.2.1, ?_⟩, V.2⟩
      rw [go m2 z]
      exact V.1.2.2.2
  · show gr H (bm m2) 10 = lwR H s m2
    unfold lwR
    rw [FP.gr]
    exact mR
theorem c_T_ground (W : RH h s) {h2 : AH} (I : CI h2 s bm c) {m x : Nat} (hm : m < 4294967296) (hx : x < 4294967296) : Mz (d + 2) 20 [.ref 20, .int (nI m), .int (nI x)] h2 0 0 (PC2 (bP (groundC s m x)) (ifS (groundC s m x) (groundS s m x) s) h2) := by
  have b0 := rs_m W
  refine mz_in (l := [some (.ref 20), some (.int (nI m)), some (.int (nI x)), none]) mk_T_ground n_T_ground rfl l_T_ground rfl (Nat.le_of_ble_eq_true rfl) fun P hP => ?_
  have no : ¬ groundC s m x → ∀ y, P 18 [some (.ref 20), some (.int (nI m)), some (.int (nI x)), y] [] h2 0 0 := by
    intro q y
    refine hP.1 _ _ s_T_ground_18 _ _ _ _ _ ?_
    simp (maxSteps := 1000000) (disch := omega) only [g_T_ground_18, slk, List.map_cons, List.map_nil, List.sum_cons, List.sum_nil, vc_i, vc_r, vc_n, vc_l, vc_o, Nat.add_zero, kO_e, kA_e, hdO_a, eq_self, blk, stp, lg, ls0, lk, ls1, ls2, kI_i, kL_l, kR_r, kR_n, kR_o, s1I_i, s2I_i, s1L_l, s2L_l, s1R_r, s1R_n, s1R_o, s1A_a, cmpc, popn, swt, rf_s, rf_n, cat_i, cat_r, cat_n, cat_l, true_and, and_true, List.length_cons, List.length_nil, Nat.zero_add, Int.reduceToNat, Nat.reduceAdd, Nat.reduceDiv, Nat.reduceMod, Nat.reduceMul, Nat.reduceSub, Nat.reduceLeDiff, Nat.reduceLT, Nat.reduceEqDiff, ↓reduceIte, r_gr_wi, r_gl_wi, r_gk_wi, r_gn_wi, r_wi_eq, r_wi_ne, r_wi_nj, r_gi_wr, r_gl_wr, r_gk_wr, r_gn_wr, r_gr_wa, r_gl_wa, r_gk_wa, r_gn_wa, aa_e, as_e, al_e, u_lt, u_le, u_gt, u_ge, u_lt0, u_le0, u_gt0, u_ge0, Classical.not_not, not_true_eq_false, not_false_eq_true, oi_n, oi_m, n_dec, nI_add, pk_mul, n_sub, n_eq, n_le, n_lt, n_eq0, n_lt0, n_le0, n_0lt, n_0le, n_eqm, m_eqn, n_ltm, n_and, n_or, n_xor, n_shl, n_shr, tb1, tb0, bP_1, bP_0, bP_n0, ix_n, inb_n, u_eq, u_eqm]
    exact lzF r_T_ground q (FrC.refl _) I
  by_cases hm1 : m < s 107 19
  · have bb := ci_b I hm1
    have mm := ci_m I m hm1
    have M := mm.2.1
    have b20 : 20 ≤ bm m := by omega
    refine hP.1 _ _ s_T_ground_0 _ _ _ _ _ ?_
    simp (maxSteps := 1000000) (disch := omega) only [g_T_ground_0, slk, List.map_cons, List.map_nil, List.sum_cons, List.sum_nil, vc_i, vc_r, vc_n, vc_l, vc_o, Nat.add_zero, kO_e, kA_e, hdO_a, eq_self, blk, stp, lg, ls0, lk, ls1, ls2, kI_i, kL_l, kR_r, kR_n, kR_o, s1I_i, s2I_i, s1L_l, s2L_l, s1R_r, s1R_n, s1R_o, s1A_a, cmpc, popn, swt, rf_s, rf_n, cat_i, cat_r, cat_n, cat_l, true_and, and_true, List.length_cons, List.length_nil, Nat.zero_add, Int.reduceToNat, Nat.reduceAdd, Nat.reduceDiv, Nat.reduceMod, Nat.reduceMul, Nat.reduceSub, Nat.reduceLeDiff, Nat.reduceLT, Nat.reduceEqDiff, ↓reduceIte, r_gr_wi, r_gl_wi, r_gk_wi, r_gn_wi, r_wi_eq, r_wi_ne, r_wi_nj, r_gi_wr, r_gl_wr, r_gk_wr, r_gn_wr, r_gr_wa, r_gl_wa, r_gk_wa, r_gn_wa, aa_e, as_e, al_e, u_lt, u_le, u_gt, u_ge, u_lt0, u_le0, u_gt0, u_ge0, Classical.not_not, not_true_eq_false, not_false_eq_true, oi_n, oi_m, n_dec, nI_add, pk_mul, n_sub, n_eq, n_le, n_lt, n_eq0, n_lt0, n_le0, n_0lt, n_0le, n_eqm, m_eqn, n_ltm, n_and, n_or, n_xor, n_shl, n_shr, tb1, tb0, bP_1, bP_0, bP_n0, ix_n, inb_n, u_eq, u_eqm, k20 (ci_L I), ma_k M, b20]
    refine wcf (c_T_matterAt W I hm1) ⟨by omega, by omega⟩ ?_
    simp (maxSteps := 1000000) (disch := omega) only [slk, List.map_cons, List.map_nil, List.sum_cons, List.sum_nil, vc_i, vc_r, vc_n, vc_l, vc_o, Nat.add_zero, kO_e, kA_e, hdO_a, eq_self, blk, stp, lg, ls0, lk, ls1, ls2, kI_i, kL_l, kR_r, kR_n, kR_o, s1I_i, s2I_i, s1L_l, s2L_l, s1R_r, s1R_n, s1R_o, s1A_a, cmpc, popn, swt, rf_s, rf_n, cat_i, cat_r, cat_n, cat_l, true_and, and_true, List.length_cons, List.length_nil, Nat.zero_add, Int.reduceToNat, Nat.reduceAdd, Nat.reduceDiv, Nat.reduceMod, Nat.reduceMul, Nat.reduceSub, Nat.reduceLeDiff, Nat.reduceLT, Nat.reduceEqDiff, ↓reduceIte, r_gr_wi, r_gl_wi, r_gk_wi, r_gn_wi, r_wi_eq, r_wi_ne, r_wi_nj, r_gi_wr, r_gl_wr, r_gk_wr, r_gn_wr, r_gr_wa, r_gl_wa, r_gk_wa, r_gn_wa, aa_e, as_e, al_e, u_lt, u_le, u_gt, u_ge, u_lt0, u_le0, u_gt0, u_ge0, Classical.not_not, not_true_eq_false, not_false_eq_true, oi_n, oi_m, n_dec, nI_add, pk_mul, n_sub, n_eq, n_le, n_lt, n_eq0, n_lt0, n_le0, n_0lt, n_0le, n_eqm, m_eqn, n_ltm, n_and, n_or, n_xor, n_shl, n_shr, tb1, tb0, bP_1, bP_0, bP_n0, ix_n, inb_n, u_eq, u_eqm, k20 (ci_L I), ma_k M, b20]
    refine ⟨fun z => (by first | exact z.elim | cases z | exact absurd rfl z | exact absurd trivial z | exact absurd id z | (exfalso; omega)), fun _ => ?_⟩
    refine hP.1 _ _ s_T_ground_10 _ _ _ _ _ ?_
    simp (maxSteps := 1000000) (disch := omega) only [g_T_ground_10, slk, List.map_cons, List.map_nil, List.sum_cons, List.sum_nil, vc_i, vc_r, vc_n, vc_l, vc_o, Nat.add_zero, kO_e, kA_e, hdO_a, eq_self, blk, stp, lg, ls0, lk, ls1, ls2, kI_i, kL_l, kR_r, kR_n, kR_o, s1I_i, s2I_i, s1L_l, s2L_l, s1R_r, s1R_n, s1R_o, s1A_a, cmpc, popn, swt, rf_s, rf_n, cat_i, cat_r, cat_n, cat_l, true_and, and_true, List.length_cons, List.length_nil, Nat.zero_add, Int.reduceToNat, Nat.reduceAdd, Nat.reduceDiv, Nat.reduceMod, Nat.reduceMul, Nat.reduceSub, Nat.reduceLeDiff, Nat.reduceLT, Nat.reduceEqDiff, ↓reduceIte, r_gr_wi, r_gl_wi, r_gk_wi, r_gn_wi, r_wi_eq, r_wi_ne, r_wi_nj, r_gi_wr, r_gl_wr, r_gk_wr, r_gn_wr, r_gr_wa, r_gl_wa, r_gk_wa, r_gn_wa, aa_e, as_e, al_e, u_lt, u_le, u_gt, u_ge, u_lt0, u_le0, u_gt0, u_ge0, Classical.not_not, not_true_eq_false, not_false_eq_true, oi_n, oi_m, n_dec, nI_add, pk_mul, n_sub, n_eq, n_le, n_lt, n_eq0, n_lt0, n_le0, n_0lt, n_0le, n_eqm, m_eqn, n_ltm, n_and, n_or, n_xor, n_shl, n_shr, tb1, tb0, bP_1, bP_0, bP_n0, ix_n, inb_n, u_eq, u_eqm, ma_k M, b20]
    refine wc (c_Ma_hasProposal W M mm.2.2.1 hm1 hx) ⟨by omega, by omega⟩ ?_
    simp (maxSteps := 1000000) (disch := omega) only [slk, List.map_cons, List.map_nil, List.sum_cons, List.sum_nil, vc_i, vc_r, vc_n, vc_l, vc_o, Nat.add_zero, kO_e, kA_e, hdO_a, eq_self, blk, stp, lg, ls0, lk, ls1, ls2, kI_i, kL_l, kR_r, kR_n, kR_o, s1I_i, s2I_i, s1L_l, s2L_l, s1R_r, s1R_n, s1R_o, s1A_a, cmpc, popn, swt, rf_s, rf_n, cat_i, cat_r, cat_n, cat_l, true_and, and_true, List.length_cons, List.length_nil, Nat.zero_add, Int.reduceToNat, Nat.reduceAdd, Nat.reduceDiv, Nat.reduceMod, Nat.reduceMul, Nat.reduceSub, Nat.reduceLeDiff, Nat.reduceLT, Nat.reduceEqDiff, ↓reduceIte, r_gr_wi, r_gl_wi, r_gk_wi, r_gn_wi, r_wi_eq, r_wi_ne, r_wi_nj, r_gi_wr, r_gl_wr, r_gk_wr, r_gn_wr, r_gr_wa, r_gl_wa, r_gk_wa, r_gn_wa, aa_e, as_e, al_e, u_lt, u_le, u_gt, u_ge, u_lt0, u_le0, u_gt0, u_ge0, Classical.not_not, not_true_eq_false, not_false_eq_true, oi_n, oi_m, n_dec, nI_add, pk_mul, n_sub, n_eq, n_le, n_lt, n_eq0, n_lt0, n_le0, n_0lt, n_0le, n_eqm, m_eqn, n_ltm, n_and, n_or, n_xor, n_shl, n_shr, tb1, tb0, bP_1, bP_0, bP_n0, ix_n, inb_n, u_eq, u_eqm, ma_k M, b20]
    refine ⟨fun z => ?_, fun z => no (fun y => z y.2) _⟩
    have hC : groundC s m x := ⟨hm1, by first | exact z | exact Classical.not_not.mp z | (simpa using z)⟩
    have g := (ci_L I).2.2
    refine hP.1 _ _ s_T_ground_20 _ _ _ _ _ ?_
    simp (maxSteps := 1000000) (disch := omega) only [g_T_ground_20, slk, List.map_cons, List.map_nil, List.sum_cons, List.sum_nil, vc_i, vc_r, vc_n, vc_l, vc_o, Nat.add_zero, kO_e, kA_e, hdO_a, eq_self, blk, stp, lg, ls0, lk, ls1, ls2, kI_i, kL_l, kR_r, kR_n, kR_o, s1I_i, s2I_i, s1L_l, s2L_l, s1R_r, s1R_n, s1R_o, s1A_a, cmpc, popn, swt, rf_s, rf_n, cat_i, cat_r, cat_n, cat_l, true_and, and_true, List.length_cons, List.length_nil, Nat.zero_add, Int.reduceToNat, Nat.reduceAdd, Nat.reduceDiv, Nat.reduceMod, Nat.reduceMul, Nat.reduceSub, Nat.reduceLeDiff, Nat.reduceLT, Nat.reduceEqDiff, ↓reduceIte, r_gr_wi, r_gl_wi, r_gk_wi, r_gn_wi, r_wi_eq, r_wi_ne, r_wi_nj, r_gi_wr, r_gl_wr, r_gk_wr, r_gn_wr, r_gr_wa, r_gl_wa, r_gk_wa, r_gn_wa, aa_e, as_e, al_e, u_lt, u_le, u_gt, u_ge, u_lt0, u_le0, u_gt0, u_ge0, Classical.not_not, not_true_eq_false, not_false_eq_true, oi_n, oi_m, n_dec, nI_add, pk_mul, n_sub, n_eq, n_le, n_lt, n_eq0, n_lt0, n_le0, n_0lt, n_0le, n_eqm, m_eqn, n_ltm, n_and, n_or, n_xor, n_shl, n_shr, tb1, tb0, bP_1, bP_0, bP_n0, ix_n, inb_n, u_eq, u_eqm, k20 (ci_L I), ma_k M, b20]
    refine wcv (c_T_unsettleFrom W I (m := m) (by omega)) ⟨by omega, by omega⟩ ?_
    simp (maxSteps := 1000000) (disch := omega) only [slk, List.map_cons, List.map_nil, List.sum_cons, List.sum_nil, vc_i, vc_r, vc_n, vc_l, vc_o, Nat.add_zero, kO_e, kA_e, hdO_a, eq_self, blk, stp, lg, ls0, lk, ls1, ls2, kI_i, kL_l, kR_r, kR_n, kR_o, s1I_i, s2I_i, s1L_l, s2L_l, s1R_r, s1R_n, s1R_o, s1A_a, cmpc, popn, swt, rf_s, rf_n, cat_i, cat_r, cat_n, cat_l, true_and, and_true, List.length_cons, List.length_nil, Nat.zero_add, Int.reduceToNat, Nat.reduceAdd, Nat.reduceDiv, Nat.reduceMod, Nat.reduceMul, Nat.reduceSub, Nat.reduceLeDiff, Nat.reduceLT, Nat.reduceEqDiff, ↓reduceIte, r_gr_wi, r_gl_wi, r_gk_wi, r_gn_wi, r_wi_eq, r_wi_ne, r_wi_nj, r_gi_wr, r_gl_wr, r_gk_wr, r_gn_wr, r_gr_wa, r_gl_wa, r_gk_wa, r_gn_wa, aa_e, as_e, al_e, u_lt, u_le, u_gt, u_ge, u_lt0, u_le0, u_gt0, u_ge0, Classical.not_not, not_true_eq_false, not_false_eq_true, oi_n, oi_m, n_dec, nI_add, pk_mul, n_sub, n_eq, n_le, n_lt, n_eq0, n_lt0, n_le0, n_0lt, n_0le, n_eqm, m_eqn, n_ltm, n_and, n_or, n_xor, n_shl, n_shr, tb1, tb0, bP_1, bP_0, bP_n0, ix_n, inb_n, u_eq, u_eqm, k20 (ci_L I), ma_k M, b20]
    refine lzT r_T_ground hC ?_ (ci_ground W (ci_uns W I (Nat.min_le_left _ _)) hC (Nat.min_le_right _ _))
    exact (frc_uns g _).trans (frc_fp ((Fp.refl (fun a => a = bm m) (wi h2 20 17 (nI (min c m)))).wi rfl _ _) g (fun a q => by have q2 : a = bm m := q; unfold clR; omega))
  · refine hP.1 _ _ s_T_ground_0 _ _ _ _ _ ?_
    simp (maxSteps := 1000000) (disch := omega) only [g_T_ground_0, slk, List.map_cons, List.map_nil, List.sum_cons, List.sum_nil, vc_i, vc_r, vc_n, vc_l, vc_o, Nat.add_zero, kO_e, kA_e, hdO_a, eq_self, blk, stp, lg, ls0, lk, ls1, ls2, kI_i, kL_l, kR_r, kR_n, kR_o, s1I_i, s2I_i, s1L_l, s2L_l, s1R_r, s1R_n, s1R_o, s1A_a, cmpc, popn, swt, rf_s, rf_n, cat_i, cat_r, cat_n, cat_l, true_and, and_true, List.length_cons, List.length_nil, Nat.zero_add, Int.reduceToNat, Nat.reduceAdd, Nat.reduceDiv, Nat.reduceMod, Nat.reduceMul, Nat.reduceSub, Nat.reduceLeDiff, Nat.reduceLT, Nat.reduceEqDiff, ↓reduceIte, r_gr_wi, r_gl_wi, r_gk_wi, r_gn_wi, r_wi_eq, r_wi_ne, r_wi_nj, r_gi_wr, r_gl_wr, r_gk_wr, r_gn_wr, r_gr_wa, r_gl_wa, r_gk_wa, r_gn_wa, aa_e, as_e, al_e, u_lt, u_le, u_gt, u_ge, u_lt0, u_le0, u_gt0, u_ge0, Classical.not_not, not_true_eq_false, not_false_eq_true, oi_n, oi_m, n_dec, nI_add, pk_mul, n_sub, n_eq, n_le, n_lt, n_eq0, n_lt0, n_le0, n_0lt, n_0le, n_eqm, m_eqn, n_ltm, n_and, n_or, n_xor, n_shl, n_shr, tb1, tb0, bP_1, bP_0, bP_n0, ix_n, inb_n, u_eq, u_eqm, k20 (ci_L I)]
    refine wcf (c_T_matterAt0 W I hm1 hm) ⟨by omega, by omega⟩ ?_
    simp (maxSteps := 1000000) (disch := omega) only [slk, List.map_cons, List.map_nil, List.sum_cons, List.sum_nil, vc_i, vc_r, vc_n, vc_l, vc_o, Nat.add_zero, kO_e, kA_e, hdO_a, eq_self, blk, stp, lg, ls0, lk, ls1, ls2, kI_i, kL_l, kR_r, kR_n, kR_o, s1I_i, s2I_i, s1L_l, s2L_l, s1R_r, s1R_n, s1R_o, s1A_a, cmpc, popn, swt, rf_s, rf_n, cat_i, cat_r, cat_n, cat_l, true_and, and_true, List.length_cons, List.length_nil, Nat.zero_add, Int.reduceToNat, Nat.reduceAdd, Nat.reduceDiv, Nat.reduceMod, Nat.reduceMul, Nat.reduceSub, Nat.reduceLeDiff, Nat.reduceLT, Nat.reduceEqDiff, ↓reduceIte, r_gr_wi, r_gl_wi, r_gk_wi, r_gn_wi, r_wi_eq, r_wi_ne, r_wi_nj, r_gi_wr, r_gl_wr, r_gk_wr, r_gn_wr, r_gr_wa, r_gl_wa, r_gk_wa, r_gn_wa, aa_e, as_e, al_e, u_lt, u_le, u_gt, u_ge, u_lt0, u_le0, u_gt0, u_ge0, Classical.not_not, not_true_eq_false, not_false_eq_true, oi_n, oi_m, n_dec, nI_add, pk_mul, n_sub, n_eq, n_le, n_lt, n_eq0, n_lt0, n_le0, n_0lt, n_0le, n_eqm, m_eqn, n_ltm, n_and, n_or, n_xor, n_shl, n_shr, tb1, tb0, bP_1, bP_0, bP_n0, ix_n, inb_n, u_eq, u_eqm, k20 (ci_L I)]
    refine ⟨fun _ => no (fun y => hm1 y.1) _, fun z => (by first | exact z.elim | cases z | exact absurd rfl z | exact absurd trivial z | exact absurd id z | (exfalso; omega))⟩
/-! laws of matters -/
theorem r_wr_ne (h : AH) {a a2 k j : Nat} (v : Option Nat) (hn : ¬ (a2 = a ∧ j = k)) : gr (wr h a k v) a2 j = gr h a2 j := by
  rw [r_gr_wr]
  by_cases q : a2 = a
  · rw [if_pos q, if_neg (fun z => hn ⟨q, z⟩), q]
  · rw [if_neg q]
theorem r_wr_eq (h : AH) (a k : Nat) (v : Option Nat) : gr (wr h a k v) a k = v := by rw [r_gr_wr, if_pos rfl, if_pos rfl]
theorem ci_by (W : RH h s) {h2 : AH} (I : CI h2 s bm c) {m l : Nat} (hC : byC s m l) (hc : c ≤ m) : CI (wr h2 (bm m) 10 (if l = 4294967295 then none else gr h2 40 l)) (byS s m l) bm c := by
  have b0 := rs_m W
  have g := (ci_L I).2.2
  have hm := hC.1
  have bb := ci_b I hm
  have c4 := (ci_ct I).2.2.2.2.2
  obtain ⟨v, ev⟩ : ∃ v, v = (if l = 4294967295 then none else gr h2 40 l) := ⟨_, rfl⟩
  rw [← ev]
  obtain ⟨H, eH⟩ : ∃ H, H = wr h2 (bm m) 10 v := ⟨_, rfl⟩
  rw [← eH]
  have FB : Fg (fun _ => False) (fun a j => a = bm m ∧ j = 10) h2 H := by
    rw [eH]
    exact Fg.wr _ _ _ _
  have pu := ci_pu I
  have ne : ∀ a j, ¬ (a = bm m ∧ j = 10) → gr H a j = gr h2 a j := fun a j q => by rw [eH]; exact r_wr_ne _ _ q
  have go : ∀ i, i ≠ m → byS s m l 116 i = s 116 i := fun i z => uS_o (fun y => z y.2)
  have lwo : ∀ i, i ≠ m → ∀ lb ps, lawW (byS s m l) i lb ps = lawW s i lb ps := fun i z lb ps => by
    unfold lawW
    rw [go i z]
    rfl
  refine ⟨FB.lay (ci_L I) (fun a j y => by first | exact y.elim | (unfold isT; omega)), Fg.cc (s := s) FB g (ci_C I) (fun a q => q.elim) (fun j y => by omega) (fun j _ y => by omega) (fun e he => rs_md W he), Fg.ct (s := s) FB g (ci_ct I) (fun q => q.elim), ?_, (show BO s bm from ci_bo I), Fg.txa (s := s) FB g (ci_tx I) (fun t ht a q => q.elim) (fun t ht j y => by have := isTx_b (ci_tx I) ht; have := ci_dj I t ht m hm; omega) (fun j _ y => by omega) (fun j _ y => by omega), Fg.dj (s := s) FB g (ci_dj I) (fun j _ y => (by first | exact y.elim | omega)) (fun j _ y => (by first | exact y.elim | omega)), Fg.tpc (s := s) FB g (ci_tp I) ⟨fun q => q.elim, fun q => q.elim⟩, Fg.plc (s := s) FB g (ci_pl I) (fun a q => q.elim), Fg.gfc (s := s) FB g (ci_gf I) (by rw [FB.2.2.1 61 (by omega) (fun q => q.elim)]) (fun a q => q.elim), Fg.asc (s := s) FB g (ci_as I) (fun a q => q.elim), Fg.twc (s := s) FB g (ci_tw I) (fun a ha q => q.elim), std_ag W FB g (ci_ct I).2.2.2.2.2 (ci_st I) rfl (fun i hi => ⟨⟨rfl, fun _ => rfl⟩, ⟨rfl, rfl, rfl⟩, lwo i (by omega), fun _ _ _ _ => rfl, fun _ _ => rfl, fun _ _ _ _ _ _ => rfl, fun _ _ _ _ _ => Iff.rfl, fun _ => Iff.rfl, fun ed rs e => trI_c _ (fun k hk => ⟨rfl, rfl, fun _ => Iff.rfl⟩)⟩) (fun j hj => rfl) (fun j hj a q => q.elim) (fun j hj y => by have e : tOf j = 75 + 8 * j := rfl; omega), pu⟩
  intro m2 hm2
  have hm2' : m2 < s 107 19 := hm2
  obtain ⟨m1, mA, mV, mR⟩ := ci_m I m2 hm2'
  have b2 := ci_b I hm2'
  have gi0 : gi H = gi h2 := by rw [eH]; rfl
  refine ⟨?_, ?_, ?_, ?_⟩
  · rw [ne _ _ (by omega)]
    exact m1
  · refine FB.ma mA (fun a j y => ?_)
    by_cases z : m2 = m
    · subst z
      exact Or.inr (Or.inr y)
    · have := bo_far I hm hm2' z
      omega
  · unfold MV
    rw [gi0]
    exact mV
  · unfold lwR
    by_cases z : m2 = m
    · subst z
      have k1 : byS s m2 l 116 m2 = l := uS_k
      rw [k1, eH, r_wr_eq, ev]
      by_cases q : l = 4294967295
      · rw [if_pos q, if_pos q]
      · rw [if_neg q, if_neg q, r_wr_ne _ _ (by omega)]
    · rw [go m2 z, ne _ _ (fun y => by have := bo_far I hm hm2' z; omega), mR]
      unfold lwR
      by_cases q : s 116 m2 = 4294967295
      · rw [if_pos q, if_pos q]
      · rw [if_neg q, if_neg q, ne _ _ (by omega)]
theorem frc_wr {h2 : AH} (g : 164 < gn h2) {a k : Nat} (ha : clR a) (v : Option Nat) : FrC h2 (wr h2 a k v) := frc_fg (Fg.wr h2 a k v) g (fun _ _ => rfl) (fun a q => q.elim) (fun b j y => by rw [y.1]; exact ha)
theorem c_T_by (W : RH h s) {h2 : AH} (I : CI h2 s bm c) {m l : Nat} (hm : m < 4294967296) (hl : l < 4294967296) : Mz (d + 2) 17 [.ref 20, .int (nI m), .int (nI l)] h2 0 0 (PC2 (bP (byC s m l)) (ifS (byC s m l) (byS s m l) s) h2) := by
  have b0 := rs_m W
  have bl := rs_laws W
  refine mz_in (l := [some (.ref 20), some (.int (nI m)), some (.int (nI l)), none]) mk_T_by n_T_by rfl l_T_by rfl (Nat.le_of_ble_eq_true rfl) fun P hP => ?_
  have no : ¬ byC s m l → ∀ y, P 23 [some (.ref 20), some (.int (nI m)), some (.int (nI l)), y] [] h2 0 0 := by
    intro q y
    refine hP.1 _ _ s_T_by_23 _ _ _ _ _ ?_
    simp (maxSteps := 1000000) (disch := omega) only [g_T_by_23, slk, List.map_cons, List.map_nil, List.sum_cons, List.sum_nil, vc_i, vc_r, vc_n, vc_l, vc_o, Nat.add_zero, kO_e, kA_e, hdO_a, eq_self, blk, stp, lg, ls0, lk, ls1, ls2, kI_i, kL_l, kR_r, kR_n, kR_o, s1I_i, s2I_i, s1L_l, s2L_l, s1R_r, s1R_n, s1R_o, s1A_a, cmpc, popn, swt, rf_s, rf_n, cat_i, cat_r, cat_n, cat_l, true_and, and_true, List.length_cons, List.length_nil, Nat.zero_add, Int.reduceToNat, Nat.reduceAdd, Nat.reduceDiv, Nat.reduceMod, Nat.reduceMul, Nat.reduceSub, Nat.reduceLeDiff, Nat.reduceLT, Nat.reduceEqDiff, ↓reduceIte, r_gr_wi, r_gl_wi, r_gk_wi, r_gn_wi, r_wi_eq, r_wi_ne, r_wi_nj, r_gi_wr, r_gl_wr, r_gk_wr, r_gn_wr, r_gr_wa, r_gl_wa, r_gk_wa, r_gn_wa, aa_e, as_e, al_e, u_lt, u_le, u_gt, u_ge, u_lt0, u_le0, u_gt0, u_ge0, Classical.not_not, not_true_eq_false, not_false_eq_true, oi_n, oi_m, n_dec, nI_add, pk_mul, n_sub, n_eq, n_le, n_lt, n_eq0, n_lt0, n_le0, n_0lt, n_0le, n_eqm, m_eqn, n_ltm, n_and, n_or, n_xor, n_shl, n_shr, tb1, tb0, bP_1, bP_0, bP_n0, ix_n, inb_n, u_eq, u_eqm]
    exact lzF r_T_by q (FrC.refl _) I
  by_cases hm1 : m < s 107 19
  · have bb := ci_b I hm1
    have mm := ci_m I m hm1
    have M := mm.2.1
    have b20 : 20 ≤ bm m := by omega
    have um := u_ltm hl
    have g := (ci_L I).2.2
    have go : byC s m l → P 25 [some (.ref 20), some (.int (nI m)), some (.int (nI l)), some (.ref (bm m))] [] h2 0 0 := by
      intro hC
      have fin : ∀ v, v = (if l = 4294967295 then none else gr h2 40 l) → P 46 [some (.ref 20), some (.int (nI m)), some (.int (nI l)), some (.ref (bm m))] [va_rf v, .ref (bm m)] (wi h2 20 17 (nI (min c m))) 0 0 := by
        intro v ev
        refine hP.1 _ _ s_T_by_46 _ _ _ _ _ ?_
        simp (maxSteps := 1000000) (disch := omega) only [g_T_by_46, slk, List.map_cons, List.map_nil, List.sum_cons, List.sum_nil, vc_i, vc_r, vc_n, vc_l, vc_o, Nat.add_zero, kO_e, kA_e, hdO_a, eq_self, blk, stp, lg, ls0, lk, ls1, ls2, kI_i, kL_l, kR_r, kR_n, kR_o, s1I_i, s2I_i, s1L_l, s2L_l, s1R_r, s1R_n, s1R_o, s1A_a, cmpc, popn, swt, rf_s, rf_n, cat_i, cat_r, cat_n, cat_l, true_and, and_true, List.length_cons, List.length_nil, Nat.zero_add, Int.reduceToNat, Nat.reduceAdd, Nat.reduceDiv, Nat.reduceMod, Nat.reduceMul, Nat.reduceSub, Nat.reduceLeDiff, Nat.reduceLT, Nat.reduceEqDiff, ↓reduceIte, r_gr_wi, r_gl_wi, r_gk_wi, r_gn_wi, r_wi_eq, r_wi_ne, r_wi_nj, r_gi_wr, r_gl_wr, r_gk_wr, r_gn_wr, r_gr_wa, r_gl_wa, r_gk_wa, r_gn_wa, aa_e, as_e, al_e, u_lt, u_le, u_gt, u_ge, u_lt0, u_le0, u_gt0, u_ge0, Classical.not_not, not_true_eq_false, not_false_eq_true, oi_n, oi_m, n_dec, nI_add, pk_mul, n_sub, n_eq, n_le, n_lt, n_eq0, n_lt0, n_le0, n_0lt, n_0le, n_eqm, m_eqn, n_ltm, n_and, n_or, n_xor, n_shl, n_shr, tb1, tb0, bP_1, bP_0, bP_n0, ix_n, inb_n, u_eq, u_eqm, ma_k M, b20]
        rw [ev]
        exact lzT r_T_by hC ((frc_uns g _).trans (frc_wr (h2 := wi h2 20 17 (nI (min c m))) g (by unfold clR; omega) _)) (ci_by W (ci_uns W I (Nat.min_le_left c m)) hC (Nat.min_le_right _ _))
      refine hP.1 _ _ s_T_by_25 _ _ _ _ _ ?_
      simp (maxSteps := 1000000) (disch := omega) only [g_T_by_25, slk, List.map_cons, List.map_nil, List.sum_cons, List.sum_nil, vc_i, vc_r, vc_n, vc_l, vc_o, Nat.add_zero, kO_e, kA_e, hdO_a, eq_self, blk, stp, lg, ls0, lk, ls1, ls2, kI_i, kL_l, kR_r, kR_n, kR_o, s1I_i, s2I_i, s1L_l, s2L_l, s1R_r, s1R_n, s1R_o, s1A_a, cmpc, popn, swt, rf_s, rf_n, cat_i, cat_r, cat_n, cat_l, true_and, and_true, List.length_cons, List.length_nil, Nat.zero_add, Int.reduceToNat, Nat.reduceAdd, Nat.reduceDiv, Nat.reduceMod, Nat.reduceMul, Nat.reduceSub, Nat.reduceLeDiff, Nat.reduceLT, Nat.reduceEqDiff, ↓reduceIte, r_gr_wi, r_gl_wi, r_gk_wi, r_gn_wi, r_wi_eq, r_wi_ne, r_wi_nj, r_gi_wr, r_gl_wr, r_gk_wr, r_gn_wr, r_gr_wa, r_gl_wa, r_gk_wa, r_gn_wa, aa_e, as_e, al_e, u_lt, u_le, u_gt, u_ge, u_lt0, u_le0, u_gt0, u_ge0, Classical.not_not, not_true_eq_false, not_false_eq_true, oi_n, oi_m, n_dec, nI_add, pk_mul, n_sub, n_eq, n_le, n_lt, n_eq0, n_lt0, n_le0, n_0lt, n_0le, n_eqm, m_eqn, n_ltm, n_and, n_or, n_xor, n_shl, n_shr, tb1, tb0, bP_1, bP_0, bP_n0, ix_n, inb_n, u_eq, u_eqm, k20 (ci_L I), ma_k M]
      refine wcv (c_T_unsettleFrom W I (m := m) (by omega)) ⟨by omega, by omega⟩ ?_
      simp (maxSteps := 1000000) (disch := omega) only [slk, List.map_cons, List.map_nil, List.sum_cons, List.sum_nil, vc_i, vc_r, vc_n, vc_l, vc_o, Nat.add_zero, kO_e, kA_e, hdO_a, eq_self, blk, stp, lg, ls0, lk, ls1, ls2, kI_i, kL_l, kR_r, kR_n, kR_o, s1I_i, s2I_i, s1L_l, s2L_l, s1R_r, s1R_n, s1R_o, s1A_a, cmpc, popn, swt, rf_s, rf_n, cat_i, cat_r, cat_n, cat_l, true_and, and_true, List.length_cons, List.length_nil, Nat.zero_add, Int.reduceToNat, Nat.reduceAdd, Nat.reduceDiv, Nat.reduceMod, Nat.reduceMul, Nat.reduceSub, Nat.reduceLeDiff, Nat.reduceLT, Nat.reduceEqDiff, ↓reduceIte, r_gr_wi, r_gl_wi, r_gk_wi, r_gn_wi, r_wi_eq, r_wi_ne, r_wi_nj, r_gi_wr, r_gl_wr, r_gk_wr, r_gn_wr, r_gr_wa, r_gl_wa, r_gk_wa, r_gn_wa, aa_e, as_e, al_e, u_lt, u_le, u_gt, u_ge, u_lt0, u_le0, u_gt0, u_ge0, Classical.not_not, not_true_eq_false, not_false_eq_true, oi_n, oi_m, n_dec, nI_add, pk_mul, n_sub, n_eq, n_le, n_lt, n_eq0, n_lt0, n_le0, n_0lt, n_0le, n_eqm, m_eqn, n_ltm, n_and, n_or, n_xor, n_shl, n_shr, tb1, tb0, bP_1, bP_0, bP_n0, ix_n, inb_n, u_eq, u_eqm, k20 (ci_L I), ma_k M]
      refine ⟨fun z => ?_, fun z => ?_⟩
      · have z' : ¬ l = 4294967295 := by first | exact z | omega
        have l8 : l < s 107 29 := hC.2.resolve_left z'
        refine hP.1 _ _ s_T_by_40 _ _ _ _ _ ?_
        simp (maxSteps := 1000000) (disch := omega) only [g_T_by_40, slk, List.map_cons, List.map_nil, List.sum_cons, List.sum_nil, vc_i, vc_r, vc_n, vc_l, vc_o, Nat.add_zero, kO_e, kA_e, hdO_a, eq_self, blk, stp, lg, ls0, lk, ls1, ls2, kI_i, kL_l, kR_r, kR_n, kR_o, s1I_i, s2I_i, s1L_l, s2L_l, s1R_r, s1R_n, s1R_o, s1A_a, cmpc, popn, swt, rf_s, rf_n, cat_i, cat_r, cat_n, cat_l, true_and, and_true, List.length_cons, List.length_nil, Nat.zero_add, Int.reduceToNat, Nat.reduceAdd, Nat.reduceDiv, Nat.reduceMod, Nat.reduceMul, Nat.reduceSub, Nat.reduceLeDiff, Nat.reduceLT, Nat.reduceEqDiff, ↓reduceIte, r_gr_wi, r_gl_wi, r_gk_wi, r_gn_wi, r_wi_eq, r_wi_ne, r_wi_nj, r_gi_wr, r_gl_wr, r_gk_wr, r_gn_wr, r_gr_wa, r_gl_wa, r_gk_wa, r_gn_wa, aa_e, as_e, al_e, u_lt, u_le, u_gt, u_ge, u_lt0, u_le0, u_gt0, u_ge0, Classical.not_not, not_true_eq_false, not_false_eq_true, oi_n, oi_m, n_dec, nI_add, pk_mul, n_sub, n_eq, n_le, n_lt, n_eq0, n_lt0, n_le0, n_0lt, n_0le, n_eqm, m_eqn, n_ltm, n_and, n_or, n_xor, n_shl, n_shr, tb1, tb0, bP_1, bP_0, bP_n0, ix_n, inb_n, u_eq, u_eqm, k20 (ci_L I), f20_4 (ci_L I), k40 (ci_L I), k40 (ci_L I), f20_4 (ci_L I)]
        exact fin _ (if_neg z').symm
      · have z' : l = 4294967295 := by first | exact z | omega
        refine hP.1 _ _ s_T_by_36 _ _ _ _ _ ?_
        simp (maxSteps := 1000000) (disch := omega) only [g_T_by_36, slk, List.map_cons, List.map_nil, List.sum_cons, List.sum_nil, vc_i, vc_r, vc_n, vc_l, vc_o, Nat.add_zero, kO_e, kA_e, hdO_a, eq_self, blk, stp, lg, ls0, lk, ls1, ls2, kI_i, kL_l, kR_r, kR_n, kR_o, s1I_i, s2I_i, s1L_l, s2L_l, s1R_r, s1R_n, s1R_o, s1A_a, cmpc, popn, swt, rf_s, rf_n, cat_i, cat_r, cat_n, cat_l, true_and, and_true, List.length_cons, List.length_nil, Nat.zero_add, Int.reduceToNat, Nat.reduceAdd, Nat.reduceDiv, Nat.reduceMod, Nat.reduceMul, Nat.reduceSub, Nat.reduceLeDiff, Nat.reduceLT, Nat.reduceEqDiff, ↓reduceIte, r_gr_wi, r_gl_wi, r_gk_wi, r_gn_wi, r_wi_eq, r_wi_ne, r_wi_nj, r_gi_wr, r_gl_wr, r_gk_wr, r_gn_wr, r_gr_wa, r_gl_wa, r_gk_wa, r_gn_wa, aa_e, as_e, al_e, u_lt, u_le, u_gt, u_ge, u_lt0, u_le0, u_gt0, u_ge0, Classical.not_not, not_true_eq_false, not_false_eq_true, oi_n, oi_m, n_dec, nI_add, pk_mul, n_sub, n_eq, n_le, n_lt, n_eq0, n_lt0, n_le0, n_0lt, n_0le, n_eqm, m_eqn, n_ltm, n_and, n_or, n_xor, n_shl, n_shr, tb1, tb0, bP_1, bP_0, bP_n0, ix_n, inb_n, u_eq, u_eqm, ma_k M]
        exact fin none (if_pos z').symm
    refine hP.1 _ _ s_T_by_0 _ _ _ _ _ ?_
    simp (maxSteps := 1000000) (disch := omega) only [g_T_by_0, slk, List.map_cons, List.map_nil, List.sum_cons, List.sum_nil, vc_i, vc_r, vc_n, vc_l, vc_o, Nat.add_zero, kO_e, kA_e, hdO_a, eq_self, blk, stp, lg, ls0, lk, ls1, ls2, kI_i, kL_l, kR_r, kR_n, kR_o, s1I_i, s2I_i, s1L_l, s2L_l, s1R_r, s1R_n, s1R_o, s1A_a, cmpc, popn, swt, rf_s, rf_n, cat_i, cat_r, cat_n, cat_l, true_and, and_true, List.length_cons, List.length_nil, Nat.zero_add, Int.reduceToNat, Nat.reduceAdd, Nat.reduceDiv, Nat.reduceMod, Nat.reduceMul, Nat.reduceSub, Nat.reduceLeDiff, Nat.reduceLT, Nat.reduceEqDiff, ↓reduceIte, r_gr_wi, r_gl_wi, r_gk_wi, r_gn_wi, r_wi_eq, r_wi_ne, r_wi_nj, r_gi_wr, r_gl_wr, r_gk_wr, r_gn_wr, r_gr_wa, r_gl_wa, r_gk_wa, r_gn_wa, aa_e, as_e, al_e, u_lt, u_le, u_gt, u_ge, u_lt0, u_le0, u_gt0, u_ge0, Classical.not_not, not_true_eq_false, not_false_eq_true, oi_n, oi_m, n_dec, nI_add, pk_mul, n_sub, n_eq, n_le, n_lt, n_eq0, n_lt0, n_le0, n_0lt, n_0le, n_eqm, m_eqn, n_ltm, n_and, n_or, n_xor, n_shl, n_shr, tb1, tb0, bP_1, bP_0, bP_n0, ix_n, inb_n, u_eq, u_eqm, k20 (ci_L I), ma_k M, um, (ci_ct I).2.2.1]
    refine wcf (c_T_matterAt W I hm1) ⟨by omega, by omega⟩ ?_
    simp (maxSteps := 1000000) (disch := omega) only [slk, List.map_cons, List.map_nil, List.sum_cons, List.sum_nil, vc_i, vc_r, vc_n, vc_l, vc_o, Nat.add_zero, kO_e, kA_e, hdO_a, eq_self, blk, stp, lg, ls0, lk, ls1, ls2, kI_i, kL_l, kR_r, kR_n, kR_o, s1I_i, s2I_i, s1L_l, s2L_l, s1R_r, s1R_n, s1R_o, s1A_a, cmpc, popn, swt, rf_s, rf_n, cat_i, cat_r, cat_n, cat_l, true_and, and_true, List.length_cons, List.length_nil, Nat.zero_add, Int.reduceToNat, Nat.reduceAdd, Nat.reduceDiv, Nat.reduceMod, Nat.reduceMul, Nat.reduceSub, Nat.reduceLeDiff, Nat.reduceLT, Nat.reduceEqDiff, ↓reduceIte, r_gr_wi, r_gl_wi, r_gk_wi, r_gn_wi, r_wi_eq, r_wi_ne, r_wi_nj, r_gi_wr, r_gl_wr, r_gk_wr, r_gn_wr, r_gr_wa, r_gl_wa, r_gk_wa, r_gn_wa, aa_e, as_e, al_e, u_lt, u_le, u_gt, u_ge, u_lt0, u_le0, u_gt0, u_ge0, Classical.not_not, not_true_eq_false, not_false_eq_true, oi_n, oi_m, n_dec, nI_add, pk_mul, n_sub, n_eq, n_le, n_lt, n_eq0, n_lt0, n_le0, n_0lt, n_0le, n_eqm, m_eqn, n_ltm, n_and, n_or, n_xor, n_shl, n_shr, tb1, tb0, bP_1, bP_0, bP_n0, ix_n, inb_n, u_eq, u_eqm, k20 (ci_L I), ma_k M, um, (ci_ct I).2.2.1]
    refine ⟨fun z => (by first | exact z.elim | cases z | exact absurd rfl z | exact absurd trivial z | exact absurd id z | (exfalso; omega)), fun _ => ?_⟩
    refine hP.1 _ _ s_T_by_10 _ _ _ _ _ ?_
    simp (maxSteps := 1000000) (disch := omega) only [g_T_by_10, slk, List.map_cons, List.map_nil, List.sum_cons, List.sum_nil, vc_i, vc_r, vc_n, vc_l, vc_o, Nat.add_zero, kO_e, kA_e, hdO_a, eq_self, blk, stp, lg, ls0, lk, ls1, ls2, kI_i, kL_l, kR_r, kR_n, kR_o, s1I_i, s2I_i, s1L_l, s2L_l, s1R_r, s1R_n, s1R_o, s1A_a, cmpc, popn, swt, rf_s, rf_n, cat_i, cat_r, cat_n, cat_l, true_and, and_true, List.length_cons, List.length_nil, Nat.zero_add, Int.reduceToNat, Nat.reduceAdd, Nat.reduceDiv, Nat.reduceMod, Nat.reduceMul, Nat.reduceSub, Nat.reduceLeDiff, Nat.reduceLT, Nat.reduceEqDiff, ↓reduceIte, r_gr_wi, r_gl_wi, r_gk_wi, r_gn_wi, r_wi_eq, r_wi_ne, r_wi_nj, r_gi_wr, r_gl_wr, r_gk_wr, r_gn_wr, r_gr_wa, r_gl_wa, r_gk_wa, r_gn_wa, aa_e, as_e, al_e, u_lt, u_le, u_gt, u_ge, u_lt0, u_le0, u_gt0, u_ge0, Classical.not_not, not_true_eq_false, not_false_eq_true, oi_n, oi_m, n_dec, nI_add, pk_mul, n_sub, n_eq, n_le, n_lt, n_eq0, n_lt0, n_le0, n_0lt, n_0le, n_eqm, m_eqn, n_ltm, n_and, n_or, n_xor, n_shl, n_shr, tb1, tb0, bP_1, bP_0, bP_n0, ix_n, inb_n, u_eq, u_eqm, ma_k M, um, (ci_ct I).2.2.1]
    refine ⟨fun z => no (fun y => by have := y.2; omega) _, fun z => ?_⟩
    by_cases q : l = 4294967295
    · refine hP.1 _ _ s_T_by_15 _ _ _ _ _ ?_
      simp (maxSteps := 1000000) (disch := omega) only [g_T_by_15, slk, List.map_cons, List.map_nil, List.sum_cons, List.sum_nil, vc_i, vc_r, vc_n, vc_l, vc_o, Nat.add_zero, kO_e, kA_e, hdO_a, eq_self, blk, stp, lg, ls0, lk, ls1, ls2, kI_i, kL_l, kR_r, kR_n, kR_o, s1I_i, s2I_i, s1L_l, s2L_l, s1R_r, s1R_n, s1R_o, s1A_a, cmpc, popn, swt, rf_s, rf_n, cat_i, cat_r, cat_n, cat_l, true_and, and_true, List.length_cons, List.length_nil, Nat.zero_add, Int.reduceToNat, Nat.reduceAdd, Nat.reduceDiv, Nat.reduceMod, Nat.reduceMul, Nat.reduceSub, Nat.reduceLeDiff, Nat.reduceLT, Nat.reduceEqDiff, ↓reduceIte, r_gr_wi, r_gl_wi, r_gk_wi, r_gn_wi, r_wi_eq, r_wi_ne, r_wi_nj, r_gi_wr, r_gl_wr, r_gk_wr, r_gn_wr, r_gr_wa, r_gl_wa, r_gk_wa, r_gn_wa, aa_e, as_e, al_e, u_lt, u_le, u_gt, u_ge, u_lt0, u_le0, u_gt0, u_ge0, Classical.not_not, not_true_eq_false, not_false_eq_true, oi_n, oi_m, n_dec, nI_add, pk_mul, n_sub, n_eq, n_le, n_lt, n_eq0, n_lt0, n_le0, n_0lt, n_0le, n_eqm, m_eqn, n_ltm, n_and, n_or, n_xor, n_shl, n_shr, tb1, tb0, bP_1, bP_0, bP_n0, ix_n, inb_n, u_eq, u_eqm, k20 (ci_L I), ma_k M, um, (ci_ct I).2.2.1]
      exact ⟨fun _ => go ⟨hm1, Or.inl q⟩, fun z => (by first | exact z.elim | cases z | exact absurd rfl z | exact absurd trivial z | exact absurd id z | (exfalso; omega))⟩
    · refine hP.1 _ _ s_T_by_15 _ _ _ _ _ ?_
      simp (maxSteps := 1000000) (disch := omega) only [g_T_by_15, slk, List.map_cons, List.map_nil, List.sum_cons, List.sum_nil, vc_i, vc_r, vc_n, vc_l, vc_o, Nat.add_zero, kO_e, kA_e, hdO_a, eq_self, blk, stp, lg, ls0, lk, ls1, ls2, kI_i, kL_l, kR_r, kR_n, kR_o, s1I_i, s2I_i, s1L_l, s2L_l, s1R_r, s1R_n, s1R_o, s1A_a, cmpc, popn, swt, rf_s, rf_n, cat_i, cat_r, cat_n, cat_l, true_and, and_true, List.length_cons, List.length_nil, Nat.zero_add, Int.reduceToNat, Nat.reduceAdd, Nat.reduceDiv, Nat.reduceMod, Nat.reduceMul, Nat.reduceSub, Nat.reduceLeDiff, Nat.reduceLT, Nat.reduceEqDiff, ↓reduceIte, r_gr_wi, r_gl_wi, r_gk_wi, r_gn_wi, r_wi_eq, r_wi_ne, r_wi_nj, r_gi_wr, r_gl_wr, r_gk_wr, r_gn_wr, r_gr_wa, r_gl_wa, r_gk_wa, r_gn_wa, aa_e, as_e, al_e, u_lt, u_le, u_gt, u_ge, u_lt0, u_le0, u_gt0, u_ge0, Classical.not_not, not_true_eq_false, not_false_eq_true, oi_n, oi_m, n_dec, nI_add, pk_mul, n_sub, n_eq, n_le, n_lt, n_eq0, n_lt0, n_le0, n_0lt, n_0le, n_eqm, m_eqn, n_ltm, n_and, n_or, n_xor, n_shl, n_shr, tb1, tb0, bP_1, bP_0, bP_n0, ix_n, inb_n, u_eq, u_eqm, k20 (ci_L I), ma_k M, um, (ci_ct I).2.2.1]
      exact ⟨fun z => go ⟨hm1, Or.inr (by omega)⟩, fun z => no (fun y => by have := y.2; omega) _⟩
  · refine hP.1 _ _ s_T_by_0 _ _ _ _ _ ?_
    simp (maxSteps := 1000000) (disch := omega) only [g_T_by_0, slk, List.map_cons, List.map_nil, List.sum_cons, List.sum_nil, vc_i, vc_r, vc_n, vc_l, vc_o, Nat.add_zero, kO_e, kA_e, hdO_a, eq_self, blk, stp, lg, ls0, lk, ls1, ls2, kI_i, kL_l, kR_r, kR_n, kR_o, s1I_i, s2I_i, s1L_l, s2L_l, s1R_r, s1R_n, s1R_o, s1A_a, cmpc, popn, swt, rf_s, rf_n, cat_i, cat_r, cat_n, cat_l, true_and, and_true, List.length_cons, List.length_nil, Nat.zero_add, Int.reduceToNat, Nat.reduceAdd, Nat.reduceDiv, Nat.reduceMod, Nat.reduceMul, Nat.reduceSub, Nat.reduceLeDiff, Nat.reduceLT, Nat.reduceEqDiff, ↓reduceIte, r_gr_wi, r_gl_wi, r_gk_wi, r_gn_wi, r_wi_eq, r_wi_ne, r_wi_nj, r_gi_wr, r_gl_wr, r_gk_wr, r_gn_wr, r_gr_wa, r_gl_wa, r_gk_wa, r_gn_wa, aa_e, as_e, al_e, u_lt, u_le, u_gt, u_ge, u_lt0, u_le0, u_gt0, u_ge0, Classical.not_not, not_true_eq_false, not_false_eq_true, oi_n, oi_m, n_dec, nI_add, pk_mul, n_sub, n_eq, n_le, n_lt, n_eq0, n_lt0, n_le0, n_0lt, n_0le, n_eqm, m_eqn, n_ltm, n_and, n_or, n_xor, n_shl, n_shr, tb1, tb0, bP_1, bP_0, bP_n0, ix_n, inb_n, u_eq, u_eqm, k20 (ci_L I)]
    refine wcf (c_T_matterAt0 W I hm1 hm) ⟨by omega, by omega⟩ ?_
    simp (maxSteps := 1000000) (disch := omega) only [slk, List.map_cons, List.map_nil, List.sum_cons, List.sum_nil, vc_i, vc_r, vc_n, vc_l, vc_o, Nat.add_zero, kO_e, kA_e, hdO_a, eq_self, blk, stp, lg, ls0, lk, ls1, ls2, kI_i, kL_l, kR_r, kR_n, kR_o, s1I_i, s2I_i, s1L_l, s2L_l, s1R_r, s1R_n, s1R_o, s1A_a, cmpc, popn, swt, rf_s, rf_n, cat_i, cat_r, cat_n, cat_l, true_and, and_true, List.length_cons, List.length_nil, Nat.zero_add, Int.reduceToNat, Nat.reduceAdd, Nat.reduceDiv, Nat.reduceMod, Nat.reduceMul, Nat.reduceSub, Nat.reduceLeDiff, Nat.reduceLT, Nat.reduceEqDiff, ↓reduceIte, r_gr_wi, r_gl_wi, r_gk_wi, r_gn_wi, r_wi_eq, r_wi_ne, r_wi_nj, r_gi_wr, r_gl_wr, r_gk_wr, r_gn_wr, r_gr_wa, r_gl_wa, r_gk_wa, r_gn_wa, aa_e, as_e, al_e, u_lt, u_le, u_gt, u_ge, u_lt0, u_le0, u_gt0, u_ge0, Classical.not_not, not_true_eq_false, not_false_eq_true, oi_n, oi_m, n_dec, nI_add, pk_mul, n_sub, n_eq, n_le, n_lt, n_eq0, n_lt0, n_le0, n_0lt, n_0le, n_eqm, m_eqn, n_ltm, n_and, n_or, n_xor, n_shl, n_shr, tb1, tb0, bP_1, bP_0, bP_n0, ix_n, inb_n, u_eq, u_eqm, k20 (ci_L I)]
    refine ⟨fun _ => no (fun y => hm1 y.1) _, fun z => (by first | exact z.elim | cases z | exact absurd rfl z | exact absurd trivial z | exact absurd id z | (exfalso; omega))⟩
/-! minds of elders -/
theorem ci_minded (W : RH h s) {h2 : AH} (I : CI h2 s bm 0) {e k : Nat} (hC : mindedC s e k) : CI (wr h2 32 e (if k = 4294967295 then none else gr h2 41 k)) (mindedS s e k) bm 0 := by
  have b0 := rs_m W
  have b1 := rs_e W
  have g := (ci_L I).2.2
  have he := hC.1
  obtain ⟨v, ev⟩ : ∃ v, v = (if k = 4294967295 then none else gr h2 41 k) := ⟨_, rfl⟩
  rw [← ev]
  obtain ⟨H, eH⟩ : ∃ H, H = wr h2 32 e v := ⟨_, rfl⟩
  rw [← eH]
  have FB : Fg (fun _ => False) (fun a j => a = 32 ∧ j = e) h2 H := by
    rw [eH]
    exact Fg.wr _ _ _ _
  have pu := ci_pu I
  have ne : ∀ a j, ¬ (a = 32 ∧ j = e) → gr H a j = gr h2 a j := fun a j q => by rw [eH]; exact r_wr_ne _ _ q
  have gi0 : gi H = gi h2 := by rw [eH]; rfl
  obtain ⟨c1, c2, c3, c4, c5⟩ := ci_C I
  refine ⟨FB.lay (ci_L I) (fun a j y => by first | exact y.elim | (unfold isT; omega)), ⟨by rw [gi0]; exact c1, by rw [gi0]; exact c2, by rw [gi0]; exact c3, by rw [gi0]; exact c4, fun x hx => ?_⟩, Fg.ct (s := s) FB g (ci_ct I) (fun q => q.elim), Fg.mt (s := s) FB g (ci_m I) (fun m hm => rs_law W hm) (fun m hm a q => q.elim) (fun m hm a j y => by have := ci_b I hm; omega) (fun j _ y => by omega) (fun j _ y => by omega), (show BO s bm from ci_bo I), Fg.txa (s := s) FB g (ci_tx I) (fun t ht a q => q.elim) (fun t ht j y => by have := isTx_b (ci_tx I) ht; omega) (fun j _ y => by omega) (fun j _ y => by omega), Fg.dj (s := s) FB g (ci_dj I) (fun j _ y => (by first | exact y.elim | omega)) (fun j _ y => (by first | exact y.elim | omega)), Fg.tpc (s := s) FB g (ci_tp I) ⟨fun q => q.elim, fun q => q.elim⟩, Fg.plc (s := s) FB g (ci_pl I) (fun a q => q.elim), Fg.gfc (s := s) FB g (ci_gf I) (by rw [FB.2.2.1 61 (by omega) (fun q => q.elim)]) (fun a q => q.elim), Fg.asc (s := s) FB g (ci_as I) (fun a q => q.elim), Fg.twc (s := s) FB g (ci_tw I) (fun a ha q => q.elim), std_0, pu⟩
  unfold mdR
  by_cases z : x = e
  · subst z
    have k1 : mindedS s x k 118 x = k := uS_k
    rw [k1, eH, r_wr_eq, ev, r_wr_ne _ _ (by omega)]
    by_cases q : k = 4294967295
    · rw [if_pos q, if_neg (fun y => y.2 q)]
    · rw [if_neg q, if_pos ⟨he, q⟩]
  · have k1 : mindedS s e k 118 x = s 118 x := uS_o (fun y => z y.2)
    rw [k1, ne 32 x (fun y => z y.2), c5 x hx]
    unfold mdR
    show (if x < s 107 18 ∧ s 118 x ≠ 4294967295 then gr h2 41 (s 118 x) else none) = if x < s 107 18 ∧ s 118 x ≠ 4294967295 then gr H 41 (s 118 x) else none
    rw [ne 41 _ (by omega)]
theorem c_T_minded (W : RH h s) {h2 : AH} (I : CI h2 s bm c) {e k : Nat} (he : e < 4294967296) (hk : k < 4294967296) : Mz (d + 2) 18 [.ref 20, .int (nI e), .int (nI k)] h2 0 0 (PC2 (bP (mindedC s e k)) (ifS (mindedC s e k) (mindedS s e k) s) h2) := by
  have b1 := rs_e W
  have bl := rs_minds W
  refine mz_in (l := [some (.ref 20), some (.int (nI e)), some (.int (nI k))]) mk_T_minded n_T_minded rfl l_T_minded rfl (Nat.le_of_ble_eq_true rfl) fun P hP => ?_
  have no : ¬ mindedC s e k → P 24 [some (.ref 20), some (.int (nI e)), some (.int (nI k))] [] h2 0 0 := by
    intro q
    refine hP.1 _ _ s_T_minded_24 _ _ _ _ _ ?_
    simp (maxSteps := 1000000) (disch := omega) only [g_T_minded_24, slk, List.map_cons, List.map_nil, List.sum_cons, List.sum_nil, vc_i, vc_r, vc_n, vc_l, vc_o, Nat.add_zero, kO_e, kA_e, hdO_a, eq_self, blk, stp, lg, ls0, lk, ls1, ls2, kI_i, kL_l, kR_r, kR_n, kR_o, s1I_i, s2I_i, s1L_l, s2L_l, s1R_r, s1R_n, s1R_o, s1A_a, cmpc, popn, swt, rf_s, rf_n, cat_i, cat_r, cat_n, cat_l, true_and, and_true, List.length_cons, List.length_nil, Nat.zero_add, Int.reduceToNat, Nat.reduceAdd, Nat.reduceDiv, Nat.reduceMod, Nat.reduceMul, Nat.reduceSub, Nat.reduceLeDiff, Nat.reduceLT, Nat.reduceEqDiff, ↓reduceIte, r_gr_wi, r_gl_wi, r_gk_wi, r_gn_wi, r_wi_eq, r_wi_ne, r_wi_nj, r_gi_wr, r_gl_wr, r_gk_wr, r_gn_wr, r_gr_wa, r_gl_wa, r_gk_wa, r_gn_wa, aa_e, as_e, al_e, u_lt, u_le, u_gt, u_ge, u_lt0, u_le0, u_gt0, u_ge0, Classical.not_not, not_true_eq_false, not_false_eq_true, oi_n, oi_m, n_dec, nI_add, pk_mul, n_sub, n_eq, n_le, n_lt, n_eq0, n_lt0, n_le0, n_0lt, n_0le, n_eqm, m_eqn, n_ltm, n_and, n_or, n_xor, n_shl, n_shr, tb1, tb0, bP_1, bP_0, bP_n0, ix_n, inb_n, u_eq, u_eqm]
    exact lzF r_T_minded q (FrC.refl _) I
  have um := u_ltm hk
  have g := (ci_L I).2.2
  have m0 : min c 0 = 0 := by omega
  have go : mindedC s e k → P 26 [some (.ref 20), some (.int (nI e)), some (.int (nI k))] [] h2 0 0 := by
    intro hC
    have e8 : e < s 107 18 := hC.1
    have I1 := ci_uns W I (c2 := 0) (Nat.zero_le _)
    have fin : ∀ v, v = (if k = 4294967295 then none else gr h2 41 k) → P 54 [some (.ref 20), some (.int (nI e)), some (.int (nI k))] [va_rf v, .int (nI e), .ref 32] (wi h2 20 17 (nI 0)) 0 0 := by
      intro v ev
      have ok : (∀ t, v = some t → 20 ≤ t ∧ kO (gk h2 t) (ecl 5)) := by
        intro t et
        rw [ev] at et
        by_cases q : k = 4294967295
        · rw [if_pos q] at et
          cases et
        · rw [if_neg q] at et
          obtain ⟨t2, cs, q2, a, b, _⟩ := (ci_tx I).2 k (hC.2.resolve_left q)
          rw [a] at et
          cases et
          exact ⟨by have := b.1.1; omega, b.2.1.1⟩
      refine hP.1 _ _ s_T_minded_54 _ _ _ _ _ ?_
      simp (maxSteps := 1000000) (disch := omega) only [g_T_minded_54, slk, List.map_cons, List.map_nil, List.sum_cons, List.sum_nil, vc_i, vc_r, vc_n, vc_l, vc_o, Nat.add_zero, kO_e, kA_e, hdO_a, eq_self, blk, stp, lg, ls0, lk, ls1, ls2, kI_i, kL_l, kR_r, kR_n, kR_o, s1I_i, s2I_i, s1L_l, s2L_l, s1R_r, s1R_n, s1R_o, s1A_a, cmpc, popn, swt, rf_s, rf_n, cat_i, cat_r, cat_n, cat_l, true_and, and_true, List.length_cons, List.length_nil, Nat.zero_add, Int.reduceToNat, Nat.reduceAdd, Nat.reduceDiv, Nat.reduceMod, Nat.reduceMul, Nat.reduceSub, Nat.reduceLeDiff, Nat.reduceLT, Nat.reduceEqDiff, ↓reduceIte, r_gr_wi, r_gl_wi, r_gk_wi, r_gn_wi, r_wi_eq, r_wi_ne, r_wi_nj, r_gi_wr, r_gl_wr, r_gk_wr, r_gn_wr, r_gr_wa, r_gl_wa, r_gk_wa, r_gn_wa, aa_e, as_e, al_e, u_lt, u_le, u_gt, u_ge, u_lt0, u_le0, u_gt0, u_ge0, Classical.not_not, not_true_eq_false, not_false_eq_true, oi_n, oi_m, n_dec, nI_add, pk_mul, n_sub, n_eq, n_le, n_lt, n_eq0, n_lt0, n_le0, n_0lt, n_0le, n_eqm, m_eqn, n_ltm, n_and, n_or, n_xor, n_shl, n_shr, tb1, tb0, bP_1, bP_0, bP_n0, ix_n, inb_n, u_eq, u_eqm, k32 (ci_L I)]
      rw [ev] at ok ⊢
      refine ⟨⟨5, 8, rfl, by decide, by decide, of_eq_true (inb_n (show e < 8 by omega) (by omega)), ok⟩, ?_⟩
      exact lzT r_T_minded hC ((frc_uns g _).trans (frc_wr (h2 := wi h2 20 17 (nI 0)) g (by unfold clR; omega) _)) (ci_minded W I1 hC)
    refine hP.1 _ _ s_T_minded_26 _ _ _ _ _ ?_
    simp (maxSteps := 1000000) (disch := omega) only [g_T_minded_26, slk, List.map_cons, List.map_nil, List.sum_cons, List.sum_nil, vc_i, vc_r, vc_n, vc_l, vc_o, Nat.add_zero, kO_e, kA_e, hdO_a, eq_self, blk, stp, lg, ls0, lk, ls1, ls2, kI_i, kL_l, kR_r, kR_n, kR_o, s1I_i, s2I_i, s1L_l, s2L_l, s1R_r, s1R_n, s1R_o, s1A_a, cmpc, popn, swt, rf_s, rf_n, cat_i, cat_r, cat_n, cat_l, true_and, and_true, List.length_cons, List.length_nil, Nat.zero_add, Int.reduceToNat, Nat.reduceAdd, Nat.reduceDiv, Nat.reduceMod, Nat.reduceMul, Nat.reduceSub, Nat.reduceLeDiff, Nat.reduceLT, Nat.reduceEqDiff, ↓reduceIte, r_gr_wi, r_gl_wi, r_gk_wi, r_gn_wi, r_wi_eq, r_wi_ne, r_wi_nj, r_gi_wr, r_gl_wr, r_gk_wr, r_gn_wr, r_gr_wa, r_gl_wa, r_gk_wa, r_gn_wa, aa_e, as_e, al_e, u_lt, u_le, u_gt, u_ge, u_lt0, u_le0, u_gt0, u_ge0, Classical.not_not, not_true_eq_false, not_false_eq_true, oi_n, oi_m, n_dec, nI_add, pk_mul, n_sub, n_eq, n_le, n_lt, n_eq0, n_lt0, n_le0, n_0lt, n_0le, n_eqm, m_eqn, n_ltm, n_and, n_or, n_xor, n_shl, n_shr, tb1, tb0, bP_1, bP_0, bP_n0, ix_n, inb_n, u_eq, u_eqm, k20 (ci_L I), f20_0 (ci_L I), k21 (ci_L I), f21_2 (ci_L I), k32 (ci_L I), m0]
    refine wcv (c_T_unsettleFrom W I (m := 0) (by omega)) ⟨by omega, by omega⟩ ?_
    simp (maxSteps := 1000000) (disch := omega) only [slk, List.map_cons, List.map_nil, List.sum_cons, List.sum_nil, vc_i, vc_r, vc_n, vc_l, vc_o, Nat.add_zero, kO_e, kA_e, hdO_a, eq_self, blk, stp, lg, ls0, lk, ls1, ls2, kI_i, kL_l, kR_r, kR_n, kR_o, s1I_i, s2I_i, s1L_l, s2L_l, s1R_r, s1R_n, s1R_o, s1A_a, cmpc, popn, swt, rf_s, rf_n, cat_i, cat_r, cat_n, cat_l, true_and, and_true, List.length_cons, List.length_nil, Nat.zero_add, Int.reduceToNat, Nat.reduceAdd, Nat.reduceDiv, Nat.reduceMod, Nat.reduceMul, Nat.reduceSub, Nat.reduceLeDiff, Nat.reduceLT, Nat.reduceEqDiff, ↓reduceIte, r_gr_wi, r_gl_wi, r_gk_wi, r_gn_wi, r_wi_eq, r_wi_ne, r_wi_nj, r_gi_wr, r_gl_wr, r_gk_wr, r_gn_wr, r_gr_wa, r_gl_wa, r_gk_wa, r_gn_wa, aa_e, as_e, al_e, u_lt, u_le, u_gt, u_ge, u_lt0, u_le0, u_gt0, u_ge0, Classical.not_not, not_true_eq_false, not_false_eq_true, oi_n, oi_m, n_dec, nI_add, pk_mul, n_sub, n_eq, n_le, n_lt, n_eq0, n_lt0, n_le0, n_0lt, n_0le, n_eqm, m_eqn, n_ltm, n_and, n_or, n_xor, n_shl, n_shr, tb1, tb0, bP_1, bP_0, bP_n0, ix_n, inb_n, u_eq, u_eqm, k20 (ci_L I), f20_0 (ci_L I), k21 (ci_L I), f21_2 (ci_L I), k32 (ci_L I), m0]
    refine ⟨fun z => ?_, fun z => ?_⟩
    · have z' : ¬ k = 4294967295 := by first | exact z | omega
      have l8 : k < s 107 30 := hC.2.resolve_left z'
      refine hP.1 _ _ s_T_minded_48 _ _ _ _ _ ?_
      simp (maxSteps := 1000000) (disch := omega) only [g_T_minded_48, slk, List.map_cons, List.map_nil, List.sum_cons, List.sum_nil, vc_i, vc_r, vc_n, vc_l, vc_o, Nat.add_zero, kO_e, kA_e, hdO_a, eq_self, blk, stp, lg, ls0, lk, ls1, ls2, kI_i, kL_l, kR_r, kR_n, kR_o, s1I_i, s2I_i, s1L_l, s2L_l, s1R_r, s1R_n, s1R_o, s1A_a, cmpc, popn, swt, rf_s, rf_n, cat_i, cat_r, cat_n, cat_l, true_and, and_true, List.length_cons, List.length_nil, Nat.zero_add, Int.reduceToNat, Nat.reduceAdd, Nat.reduceDiv, Nat.reduceMod, Nat.reduceMul, Nat.reduceSub, Nat.reduceLeDiff, Nat.reduceLT, Nat.reduceEqDiff, ↓reduceIte, r_gr_wi, r_gl_wi, r_gk_wi, r_gn_wi, r_wi_eq, r_wi_ne, r_wi_nj, r_gi_wr, r_gl_wr, r_gk_wr, r_gn_wr, r_gr_wa, r_gl_wa, r_gk_wa, r_gn_wa, aa_e, as_e, al_e, u_lt, u_le, u_gt, u_ge, u_lt0, u_le0, u_gt0, u_ge0, Classical.not_not, not_true_eq_false, not_false_eq_true, oi_n, oi_m, n_dec, nI_add, pk_mul, n_sub, n_eq, n_le, n_lt, n_eq0, n_lt0, n_le0, n_0lt, n_0le, n_eqm, m_eqn, n_ltm, n_and, n_or, n_xor, n_shl, n_shr, tb1, tb0, bP_1, bP_0, bP_n0, ix_n, inb_n, u_eq, u_eqm, k20 (ci_L I), f20_5 (ci_L I), k41 (ci_L I), k41 (ci_L I), f20_5 (ci_L I)]
      exact fin _ (if_neg z').symm
    · have z' : k = 4294967295 := by first | exact z | omega
      refine hP.1 _ _ s_T_minded_44 _ _ _ _ _ ?_
      simp (maxSteps := 1000000) (disch := omega) only [g_T_minded_44, slk, List.map_cons, List.map_nil, List.sum_cons, List.sum_nil, vc_i, vc_r, vc_n, vc_l, vc_o, Nat.add_zero, kO_e, kA_e, hdO_a, eq_self, blk, stp, lg, ls0, lk, ls1, ls2, kI_i, kL_l, kR_r, kR_n, kR_o, s1I_i, s2I_i, s1L_l, s2L_l, s1R_r, s1R_n, s1R_o, s1A_a, cmpc, popn, swt, rf_s, rf_n, cat_i, cat_r, cat_n, cat_l, true_and, and_true, List.length_cons, List.length_nil, Nat.zero_add, Int.reduceToNat, Nat.reduceAdd, Nat.reduceDiv, Nat.reduceMod, Nat.reduceMul, Nat.reduceSub, Nat.reduceLeDiff, Nat.reduceLT, Nat.reduceEqDiff, ↓reduceIte, r_gr_wi, r_gl_wi, r_gk_wi, r_gn_wi, r_wi_eq, r_wi_ne, r_wi_nj, r_gi_wr, r_gl_wr, r_gk_wr, r_gn_wr, r_gr_wa, r_gl_wa, r_gk_wa, r_gn_wa, aa_e, as_e, al_e, u_lt, u_le, u_gt, u_ge, u_lt0, u_le0, u_gt0, u_ge0, Classical.not_not, not_true_eq_false, not_false_eq_true, oi_n, oi_m, n_dec, nI_add, pk_mul, n_sub, n_eq, n_le, n_lt, n_eq0, n_lt0, n_le0, n_0lt, n_0le, n_eqm, m_eqn, n_ltm, n_and, n_or, n_xor, n_shl, n_shr, tb1, tb0, bP_1, bP_0, bP_n0, ix_n, inb_n, u_eq, u_eqm, m0]
      exact fin none (if_pos z').symm
  refine hP.1 _ _ s_T_minded_0 _ _ _ _ _ ?_
  simp (maxSteps := 1000000) (disch := omega) only [g_T_minded_0, slk, List.map_cons, List.map_nil, List.sum_cons, List.sum_nil, vc_i, vc_r, vc_n, vc_l, vc_o, Nat.add_zero, kO_e, kA_e, hdO_a, eq_self, blk, stp, lg, ls0, lk, ls1, ls2, kI_i, kL_l, kR_r, kR_n, kR_o, s1I_i, s2I_i, s1L_l, s2L_l, s1R_r, s1R_n, s1R_o, s1A_a, cmpc, popn, swt, rf_s, rf_n, cat_i, cat_r, cat_n, cat_l, true_and, and_true, List.length_cons, List.length_nil, Nat.zero_add, Int.reduceToNat, Nat.reduceAdd, Nat.reduceDiv, Nat.reduceMod, Nat.reduceMul, Nat.reduceSub, Nat.reduceLeDiff, Nat.reduceLT, Nat.reduceEqDiff, ↓reduceIte, r_gr_wi, r_gl_wi, r_gk_wi, r_gn_wi, r_wi_eq, r_wi_ne, r_wi_nj, r_gi_wr, r_gl_wr, r_gk_wr, r_gn_wr, r_gr_wa, r_gl_wa, r_gk_wa, r_gn_wa, aa_e, as_e, al_e, u_lt, u_le, u_gt, u_ge, u_lt0, u_le0, u_gt0, u_ge0, Classical.not_not, not_true_eq_false, not_false_eq_true, oi_n, oi_m, n_dec, nI_add, pk_mul, n_sub, n_eq, n_le, n_lt, n_eq0, n_lt0, n_le0, n_0lt, n_0le, n_eqm, m_eqn, n_ltm, n_and, n_or, n_xor, n_shl, n_shr, tb1, tb0, bP_1, bP_0, bP_n0, ix_n, inb_n, u_eq, u_eqm, k20 (ci_L I), f20_0 (ci_L I), k21 (ci_L I)]
  refine wc (c_Ci_has (ci_L I) (ci_C I).1.1 b1 he) ⟨by omega, by omega⟩ ?_
  simp (maxSteps := 1000000) (disch := omega) only [slk, List.map_cons, List.map_nil, List.sum_cons, List.sum_nil, vc_i, vc_r, vc_n, vc_l, vc_o, Nat.add_zero, kO_e, kA_e, hdO_a, eq_self, blk, stp, lg, ls0, lk, ls1, ls2, kI_i, kL_l, kR_r, kR_n, kR_o, s1I_i, s2I_i, s1L_l, s2L_l, s1R_r, s1R_n, s1R_o, s1A_a, cmpc, popn, swt, rf_s, rf_n, cat_i, cat_r, cat_n, cat_l, true_and, and_true, List.length_cons, List.length_nil, Nat.zero_add, Int.reduceToNat, Nat.reduceAdd, Nat.reduceDiv, Nat.reduceMod, Nat.reduceMul, Nat.reduceSub, Nat.reduceLeDiff, Nat.reduceLT, Nat.reduceEqDiff, ↓reduceIte, r_gr_wi, r_gl_wi, r_gk_wi, r_gn_wi, r_wi_eq, r_wi_ne, r_wi_nj, r_gi_wr, r_gl_wr, r_gk_wr, r_gn_wr, r_gr_wa, r_gl_wa, r_gk_wa, r_gn_wa, aa_e, as_e, al_e, u_lt, u_le, u_gt, u_ge, u_lt0, u_le0, u_gt0, u_ge0, Classical.not_not, not_true_eq_false, not_false_eq_true, oi_n, oi_m, n_dec, nI_add, pk_mul, n_sub, n_eq, n_le, n_lt, n_eq0, n_lt0, n_le0, n_0lt, n_0le, n_eqm, m_eqn, n_ltm, n_and, n_or, n_xor, n_shl, n_shr, tb1, tb0, bP_1, bP_0, bP_n0, ix_n, inb_n, u_eq, u_eqm, k20 (ci_L I), f20_0 (ci_L I), k21 (ci_L I)]
  refine ⟨fun z => no (fun y => z y.1), fun z => ?_⟩
  have he1 : e < s 107 18 := by first | exact z | exact Classical.not_not.mp z | (simpa using z)
  refine hP.1 _ _ s_T_minded_11 _ _ _ _ _ ?_
  simp (maxSteps := 1000000) (disch := omega) only [g_T_minded_11, slk, List.map_cons, List.map_nil, List.sum_cons, List.sum_nil, vc_i, vc_r, vc_n, vc_l, vc_o, Nat.add_zero, kO_e, kA_e, hdO_a, eq_self, blk, stp, lg, ls0, lk, ls1, ls2, kI_i, kL_l, kR_r, kR_n, kR_o, s1I_i, s2I_i, s1L_l, s2L_l, s1R_r, s1R_n, s1R_o, s1A_a, cmpc, popn, swt, rf_s, rf_n, cat_i, cat_r, cat_n, cat_l, true_and, and_true, List.length_cons, List.length_nil, Nat.zero_add, Int.reduceToNat, Nat.reduceAdd, Nat.reduceDiv, Nat.reduceMod, Nat.reduceMul, Nat.reduceSub, Nat.reduceLeDiff, Nat.reduceLT, Nat.reduceEqDiff, ↓reduceIte, r_gr_wi, r_gl_wi, r_gk_wi, r_gn_wi, r_wi_eq, r_wi_ne, r_wi_nj, r_gi_wr, r_gl_wr, r_gk_wr, r_gn_wr, r_gr_wa, r_gl_wa, r_gk_wa, r_gn_wa, aa_e, as_e, al_e, u_lt, u_le, u_gt, u_ge, u_lt0, u_le0, u_gt0, u_ge0, Classical.not_not, not_true_eq_false, not_false_eq_true, oi_n, oi_m, n_dec, nI_add, pk_mul, n_sub, n_eq, n_le, n_lt, n_eq0, n_lt0, n_le0, n_0lt, n_0le, n_eqm, m_eqn, n_ltm, n_and, n_or, n_xor, n_shl, n_shr, tb1, tb0, bP_1, bP_0, bP_n0, ix_n, inb_n, u_eq, u_eqm, um, (ci_ct I).2.2.2.1]
  refine ⟨fun z => no (fun y => by have := y.2; omega), fun z => ?_⟩
  by_cases q : k = 4294967295
  · refine hP.1 _ _ s_T_minded_16 _ _ _ _ _ ?_
    simp (maxSteps := 1000000) (disch := omega) only [g_T_minded_16, slk, List.map_cons, List.map_nil, List.sum_cons, List.sum_nil, vc_i, vc_r, vc_n, vc_l, vc_o, Nat.add_zero, kO_e, kA_e, hdO_a, eq_self, blk, stp, lg, ls0, lk, ls1, ls2, kI_i, kL_l, kR_r, kR_n, kR_o, s1I_i, s2I_i, s1L_l, s2L_l, s1R_r, s1R_n, s1R_o, s1A_a, cmpc, popn, swt, rf_s, rf_n, cat_i, cat_r, cat_n, cat_l, true_and, and_true, List.length_cons, List.length_nil, Nat.zero_add, Int.reduceToNat, Nat.reduceAdd, Nat.reduceDiv, Nat.reduceMod, Nat.reduceMul, Nat.reduceSub, Nat.reduceLeDiff, Nat.reduceLT, Nat.reduceEqDiff, ↓reduceIte, r_gr_wi, r_gl_wi, r_gk_wi, r_gn_wi, r_wi_eq, r_wi_ne, r_wi_nj, r_gi_wr, r_gl_wr, r_gk_wr, r_gn_wr, r_gr_wa, r_gl_wa, r_gk_wa, r_gn_wa, aa_e, as_e, al_e, u_lt, u_le, u_gt, u_ge, u_lt0, u_le0, u_gt0, u_ge0, Classical.not_not, not_true_eq_false, not_false_eq_true, oi_n, oi_m, n_dec, nI_add, pk_mul, n_sub, n_eq, n_le, n_lt, n_eq0, n_lt0, n_le0, n_0lt, n_0le, n_eqm, m_eqn, n_ltm, n_and, n_or, n_xor, n_shl, n_shr, tb1, tb0, bP_1, bP_0, bP_n0, ix_n, inb_n, u_eq, u_eqm, k20 (ci_L I), um, (ci_ct I).2.2.2.1]
    exact ⟨fun _ => go ⟨he1, Or.inl q⟩, fun z => (by first | exact z.elim | cases z | exact absurd rfl z | exact absurd trivial z | exact absurd id z | (exfalso; omega))⟩
  · refine hP.1 _ _ s_T_minded_16 _ _ _ _ _ ?_
    simp (maxSteps := 1000000) (disch := omega) only [g_T_minded_16, slk, List.map_cons, List.map_nil, List.sum_cons, List.sum_nil, vc_i, vc_r, vc_n, vc_l, vc_o, Nat.add_zero, kO_e, kA_e, hdO_a, eq_self, blk, stp, lg, ls0, lk, ls1, ls2, kI_i, kL_l, kR_r, kR_n, kR_o, s1I_i, s2I_i, s1L_l, s2L_l, s1R_r, s1R_n, s1R_o, s1A_a, cmpc, popn, swt, rf_s, rf_n, cat_i, cat_r, cat_n, cat_l, true_and, and_true, List.length_cons, List.length_nil, Nat.zero_add, Int.reduceToNat, Nat.reduceAdd, Nat.reduceDiv, Nat.reduceMod, Nat.reduceMul, Nat.reduceSub, Nat.reduceLeDiff, Nat.reduceLT, Nat.reduceEqDiff, ↓reduceIte, r_gr_wi, r_gl_wi, r_gk_wi, r_gn_wi, r_wi_eq, r_wi_ne, r_wi_nj, r_gi_wr, r_gl_wr, r_gk_wr, r_gn_wr, r_gr_wa, r_gl_wa, r_gk_wa, r_gn_wa, aa_e, as_e, al_e, u_lt, u_le, u_gt, u_ge, u_lt0, u_le0, u_gt0, u_ge0, Classical.not_not, not_true_eq_false, not_false_eq_true, oi_n, oi_m, n_dec, nI_add, pk_mul, n_sub, n_eq, n_le, n_lt, n_eq0, n_lt0, n_le0, n_0lt, n_0le, n_eqm, m_eqn, n_ltm, n_and, n_or, n_xor, n_shl, n_shr, tb1, tb0, bP_1, bP_0, bP_n0, ix_n, inb_n, u_eq, u_eqm, k20 (ci_L I), um, (ci_ct I).2.2.2.1]
    exact ⟨fun z => go ⟨he1, Or.inr (by omega)⟩, fun z => no (fun y => by have := y.2; omega)⟩
/-! the tape's end -/
theorem ci_end (W : RH h s) {h2 : AH} (I : CI h2 s bm c) {n : Nat} (hn : n ≤ s 107 28) : CI (wi h2 35 1 (nI n)) (endS s n) bm c := by
  have b0 := rs_m W
  have g := (ci_L I).2.2
  have c4 := (ci_ct I).2.2.2.2.2
  obtain ⟨H, eH⟩ : ∃ H, H = wi h2 35 1 (nI n) := ⟨_, rfl⟩
  rw [← eH]
  have FP : Fp (fun a => a = 35) h2 H := by
    rw [eH]
    exact (Fp.refl (fun a => a = 35) h2).wi rfl _ _
  have FB := FP.fg
  refine ⟨FB.lay (ci_L I) (fun a j y => by first | exact y.elim | (unfold isT; omega)), Fg.cc (s := s) FB g (ci_C I) (fun a q => by omega) (fun j y => (by first | exact y.elim | omega)) (fun j _ y => (by first | exact y.elim | omega)) (fun e he => rs_md W he), Fg.ct (s := s) FB g (ci_ct I) (fun q => by omega), Fg.mt (s := s) FB g (ci_m I) (fun m hm => rs_law W hm) (fun m hm a q => by have := ci_b I hm; omega) (fun m hm a j y => by first | exact y.elim | (have := ci_b I hm; omega)) (fun j _ y => (by first | exact y.elim | omega)) (fun j _ y => (by first | exact y.elim | omega)), (show BO s bm from ci_bo I), Fg.txa (s := s) FB g (ci_tx I) (fun t ht a q => by have := isTx_b (ci_tx I) ht; omega) (fun t ht j y => by first | exact y.elim | (have := isTx_b (ci_tx I) ht; omega)) (fun j _ y => (by first | exact y.elim | omega)) (fun j _ y => (by first | exact y.elim | omega)), Fg.dj (s := s) FB g (ci_dj I) (fun j _ y => (by first | exact y.elim | omega)) (fun j _ y => (by first | exact y.elim | omega)), ⟨?_, fun j hj => ?_⟩, Fg.plc (s := s) FB g (ci_pl I) (fun a q => by omega), Fg.gfc (s := s) FB g (ci_gf I) (by rw [FB.2.2.1 61 (by omega) (fun q => by omega)]) (fun a q => by omega), Fg.asc (s := s) FB g (ci_as I) (fun a q => by omega), Fg.twc (s := s) FB g (ci_tw I) (fun a ha q => by have := ta_b ha; unfold isT at ha; omega), std_ag W FB g (ci_ct I).2.2.2.2.2 (ci_st I) rfl (fun i hi => ⟨⟨rfl, fun _ => rfl⟩, ⟨rfl, rfl, rfl⟩, fun _ _ => rfl, fun _ _ _ _ => rfl, fun _ _ => rfl, fun _ _ _ _ _ _ => rfl, fun _ _ _ _ _ => Iff.rfl, fun _ => Iff.rfl, fun ed rs e => trI_c _ (fun k hk => ⟨rfl, rfl, fun _ => Iff.rfl⟩)⟩) (fun j hj => rfl) (fun j hj a q => by have e : tOf j = 75 + 8 * j := rfl; omega) (fun j hj y => y.elim), (show PU1 s from ci_pu I)⟩
  · rw [eH, r_wi_eq]
    rfl
  · have hj2 : j < n := hj
    rw [FP.2 36 (fun q => by have q2 : 36 = 35 := q; omega)]
    exact (ci_tp I).2 j (by omega)
theorem c_T_end (W : RH h s) {h2 : AH} (I : CI h2 s bm c) {n : Nat} (hn : n < 4294967296) : Mz (d + 1) 13 [.ref 20, .int (nI n)] h2 0 0 (PC2 (bP (n ≤ s 107 28)) (ifS (n ≤ s 107 28) (endS s n) s) h2) := by
  have bl := rs_l W
  have g := (ci_L I).2.2
  refine mz_in (l := [some (.ref 20), some (.int (nI n))]) mk_T_end n_T_end rfl l_T_end rfl (Nat.le_of_ble_eq_true rfl) fun P hP => ?_
  have no : ¬ n ≤ s 107 28 → P 15 [some (.ref 20), some (.int (nI n))] [] h2 0 0 := by
    intro q
    refine hP.1 _ _ s_T_end_15 _ _ _ _ _ ?_
    simp (maxSteps := 1000000) (disch := omega) only [g_T_end_15, slk, List.map_cons, List.map_nil, List.sum_cons, List.sum_nil, vc_i, vc_r, vc_n, vc_l, vc_o, Nat.add_zero, kO_e, kA_e, hdO_a, eq_self, blk, stp, lg, ls0, lk, ls1, ls2, kI_i, kL_l, kR_r, kR_n, kR_o, s1I_i, s2I_i, s1L_l, s2L_l, s1R_r, s1R_n, s1R_o, s1A_a, cmpc, popn, swt, rf_s, rf_n, cat_i, cat_r, cat_n, cat_l, true_and, and_true, List.length_cons, List.length_nil, Nat.zero_add, Int.reduceToNat, Nat.reduceAdd, Nat.reduceDiv, Nat.reduceMod, Nat.reduceMul, Nat.reduceSub, Nat.reduceLeDiff, Nat.reduceLT, Nat.reduceEqDiff, ↓reduceIte, r_gr_wi, r_gl_wi, r_gk_wi, r_gn_wi, r_wi_eq, r_wi_ne, r_wi_nj, r_gi_wr, r_gl_wr, r_gk_wr, r_gn_wr, r_gr_wa, r_gl_wa, r_gk_wa, r_gn_wa, aa_e, as_e, al_e, u_lt, u_le, u_gt, u_ge, u_lt0, u_le0, u_gt0, u_ge0, Classical.not_not, not_true_eq_false, not_false_eq_true, oi_n, oi_m, n_dec, nI_add, pk_mul, n_sub, n_eq, n_le, n_lt, n_eq0, n_lt0, n_le0, n_0lt, n_0le, n_eqm, m_eqn, n_ltm, n_and, n_or, n_xor, n_shl, n_shr, tb1, tb0, bP_1, bP_0, bP_n0, ix_n, inb_n, u_eq, u_eqm, (ci_tp I).1]
    exact lzF r_T_end q (FrC.refl _) I
  rcases Nat.lt_or_ge n 2147483648 with q | q
  · refine hP.1 _ _ s_T_end_0 _ _ _ _ _ ?_
    simp (maxSteps := 1000000) (disch := omega) only [g_T_end_0, slk, List.map_cons, List.map_nil, List.sum_cons, List.sum_nil, vc_i, vc_r, vc_n, vc_l, vc_o, Nat.add_zero, kO_e, kA_e, hdO_a, eq_self, blk, stp, lg, ls0, lk, ls1, ls2, kI_i, kL_l, kR_r, kR_n, kR_o, s1I_i, s2I_i, s1L_l, s2L_l, s1R_r, s1R_n, s1R_o, s1A_a, cmpc, popn, swt, rf_s, rf_n, cat_i, cat_r, cat_n, cat_l, true_and, and_true, List.length_cons, List.length_nil, Nat.zero_add, Int.reduceToNat, Nat.reduceAdd, Nat.reduceDiv, Nat.reduceMod, Nat.reduceMul, Nat.reduceSub, Nat.reduceLeDiff, Nat.reduceLT, Nat.reduceEqDiff, ↓reduceIte, r_gr_wi, r_gl_wi, r_gk_wi, r_gn_wi, r_wi_eq, r_wi_ne, r_wi_nj, r_gi_wr, r_gl_wr, r_gk_wr, r_gn_wr, r_gr_wa, r_gl_wa, r_gk_wa, r_gn_wa, aa_e, as_e, al_e, u_lt, u_le, u_gt, u_ge, u_lt0, u_le0, u_gt0, u_ge0, Classical.not_not, not_true_eq_false, not_false_eq_true, oi_n, oi_m, n_dec, nI_add, pk_mul, n_sub, n_eq, n_le, n_lt, n_eq0, n_lt0, n_le0, n_0lt, n_0le, n_eqm, m_eqn, n_ltm, n_and, n_or, n_xor, n_shl, n_shr, tb1, tb0, bP_1, bP_0, bP_n0, ix_n, inb_n, u_eq, u_eqm, (ci_tp I).1]
    refine ⟨fun z => (by first | exact z.elim | cases z | exact absurd rfl z | exact absurd trivial z | exact absurd id z | (exfalso; omega)), fun _ => ?_⟩
    refine hP.1 _ _ s_T_end_4 _ _ _ _ _ ?_
    simp (maxSteps := 1000000) (disch := omega) only [g_T_end_4, slk, List.map_cons, List.map_nil, List.sum_cons, List.sum_nil, vc_i, vc_r, vc_n, vc_l, vc_o, Nat.add_zero, kO_e, kA_e, hdO_a, eq_self, blk, stp, lg, ls0, lk, ls1, ls2, kI_i, kL_l, kR_r, kR_n, kR_o, s1I_i, s2I_i, s1L_l, s2L_l, s1R_r, s1R_n, s1R_o, s1A_a, cmpc, popn, swt, rf_s, rf_n, cat_i, cat_r, cat_n, cat_l, true_and, and_true, List.length_cons, List.length_nil, Nat.zero_add, Int.reduceToNat, Nat.reduceAdd, Nat.reduceDiv, Nat.reduceMod, Nat.reduceMul, Nat.reduceSub, Nat.reduceLeDiff, Nat.reduceLT, Nat.reduceEqDiff, ↓reduceIte, r_gr_wi, r_gl_wi, r_gk_wi, r_gn_wi, r_wi_eq, r_wi_ne, r_wi_nj, r_gi_wr, r_gl_wr, r_gk_wr, r_gn_wr, r_gr_wa, r_gl_wa, r_gk_wa, r_gn_wa, aa_e, as_e, al_e, u_lt, u_le, u_gt, u_ge, u_lt0, u_le0, u_gt0, u_ge0, Classical.not_not, not_true_eq_false, not_false_eq_true, oi_n, oi_m, n_dec, nI_add, pk_mul, n_sub, n_eq, n_le, n_lt, n_eq0, n_lt0, n_le0, n_0lt, n_0le, n_eqm, m_eqn, n_ltm, n_and, n_or, n_xor, n_shl, n_shr, tb1, tb0, bP_1, bP_0, bP_n0, ix_n, inb_n, u_eq, u_eqm, k20 (ci_L I), f20_2 (ci_L I), k35 (ci_L I), (ci_tp I).1]
    refine ⟨fun z => ?_, fun z => no (by omega)⟩
    have hC : n ≤ s 107 28 := by omega
    refine hP.1 _ _ s_T_end_17 _ _ _ _ _ ?_
    simp (maxSteps := 1000000) (disch := omega) only [g_T_end_17, slk, List.map_cons, List.map_nil, List.sum_cons, List.sum_nil, vc_i, vc_r, vc_n, vc_l, vc_o, Nat.add_zero, kO_e, kA_e, hdO_a, eq_self, blk, stp, lg, ls0, lk, ls1, ls2, kI_i, kL_l, kR_r, kR_n, kR_o, s1I_i, s2I_i, s1L_l, s2L_l, s1R_r, s1R_n, s1R_o, s1A_a, cmpc, popn, swt, rf_s, rf_n, cat_i, cat_r, cat_n, cat_l, true_and, and_true, List.length_cons, List.length_nil, Nat.zero_add, Int.reduceToNat, Nat.reduceAdd, Nat.reduceDiv, Nat.reduceMod, Nat.reduceMul, Nat.reduceSub, Nat.reduceLeDiff, Nat.reduceLT, Nat.reduceEqDiff, ↓reduceIte, r_gr_wi, r_gl_wi, r_gk_wi, r_gn_wi, r_wi_eq, r_wi_ne, r_wi_nj, r_gi_wr, r_gl_wr, r_gk_wr, r_gn_wr, r_gr_wa, r_gl_wa, r_gk_wa, r_gn_wa, aa_e, as_e, al_e, u_lt, u_le, u_gt, u_ge, u_lt0, u_le0, u_gt0, u_ge0, Classical.not_not, not_true_eq_false, not_false_eq_true, oi_n, oi_m, n_dec, nI_add, pk_mul, n_sub, n_eq, n_le, n_lt, n_eq0, n_lt0, n_le0, n_0lt, n_0le, n_eqm, m_eqn, n_ltm, n_and, n_or, n_xor, n_shl, n_shr, tb1, tb0, bP_1, bP_0, bP_n0, ix_n, inb_n, u_eq, u_eqm, k20 (ci_L I), f20_2 (ci_L I), k35 (ci_L I), (ci_tp I).1]
    exact lzT r_T_end hC (frc_fp ((Fp.refl (fun a => a = 35) h2).wi rfl _ _) g (fun a q => by have q2 : a = 35 := q; unfold clR; omega)) (ci_end W I hC)
  · refine hP.1 _ _ s_T_end_0 _ _ _ _ _ ?_
    simp (maxSteps := 1000000) (disch := omega) only [g_T_end_0, slk, List.map_cons, List.map_nil, List.sum_cons, List.sum_nil, vc_i, vc_r, vc_n, vc_l, vc_o, Nat.add_zero, kO_e, kA_e, hdO_a, eq_self, blk, stp, lg, ls0, lk, ls1, ls2, kI_i, kL_l, kR_r, kR_n, kR_o, s1I_i, s2I_i, s1L_l, s2L_l, s1R_r, s1R_n, s1R_o, s1A_a, cmpc, popn, swt, rf_s, rf_n, cat_i, cat_r, cat_n, cat_l, true_and, and_true, List.length_cons, List.length_nil, Nat.zero_add, Int.reduceToNat, Nat.reduceAdd, Nat.reduceDiv, Nat.reduceMod, Nat.reduceMul, Nat.reduceSub, Nat.reduceLeDiff, Nat.reduceLT, Nat.reduceEqDiff, ↓reduceIte, r_gr_wi, r_gl_wi, r_gk_wi, r_gn_wi, r_wi_eq, r_wi_ne, r_wi_nj, r_gi_wr, r_gl_wr, r_gk_wr, r_gn_wr, r_gr_wa, r_gl_wa, r_gk_wa, r_gn_wa, aa_e, as_e, al_e, u_lt, u_le, u_gt, u_ge, u_lt0, u_le0, u_gt0, u_ge0, Classical.not_not, not_true_eq_false, not_false_eq_true, oi_n, oi_m, n_dec, nI_add, pk_mul, n_sub, n_eq, n_le, n_lt, n_eq0, n_lt0, n_le0, n_0lt, n_0le, n_eqm, m_eqn, n_ltm, n_and, n_or, n_xor, n_shl, n_shr, tb1, tb0, bP_1, bP_0, bP_n0, ix_n, inb_n, u_eq, u_eqm, (ci_tp I).1]
    exact ⟨fun _ => no (by omega), fun z => (by first | exact z.elim | cases z | exact absurd rfl z | exact absurd trivial z | exact absurd id z | (exfalso; omega))⟩
end
