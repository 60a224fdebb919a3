/-! ===== the class: elders come, leave, come back ===== -/
theorem n_T_left : mN 2 = 3 := rfl
theorem l_T_left : mL 2 = 3 := rfl
theorem r_T_left : mR 2 = some .boolean := rfl
theorem n_T_elder : mN 1 = 2 := rfl
theorem l_T_elder : mL 1 = 2 := rfl
theorem r_T_elder : mR 1 = some .int := rfl
section
variable {h : AH} {s : St} {d c : Nat} {bm : Nat → Nat}
theorem stB_bit {b e x : Nat} {is : Prop} : (stB b e is).testBit x = true ↔ if x = e then is else b.testBit x = true := sh_bit
theorem stB_lt {b e : Nat} {is : Prop} (hb : b < 256) (he : e < 8) : stB b e is < 256 := by
  have h1 : 1 <<< e < 2 ^ 8 := one_lt (by omega)
  by_cases q : is
  · rw [show stB b e is = _ from nif_t q]
    exact or_lt (k := 8) hb h1
  · rw [show stB b e is = _ from nif_f q]
    exact adN_lt (n := 8) hb
theorem tho_eq (W : RH h s) {b : Nat} (hb : ∀ x, b.testBit x = true ↔ x < s 107 18 ∧ s 111 x = 0) : thoN s = b := Nat.eq_of_testBit_eq fun x => Bool.eq_iff_iff.mpr ((tho_bit W x).trans (hb x).symm)
theorem ci_left (W : RH h s) {h2 H : AH} (I : CI h2 s bm 0) {e b : Nat} (hC : leftC s e b) (hb : b ≤ 1) (F : Fp (fun a => a = 21 ∨ a = 33) h2 H) (g4 : gi H 21 4 = gi h2 21 4) (g6 : gi H 21 6 = nI (stB (thoN s) e (b = 0))) (g5 : gi H 21 5 = nI (csL (s 108) (stB (thoN s) e (b = 0)) (s 107 18)).length) (gA : ∀ k, k < (csL (s 108) (stB (thoN s) e (b = 0)) (s 107 18)).length → gi H 33 k = nI ((csL (s 108) (stB (thoN s) e (b = 0)) (s 107 18)).getD k 0)) : CI H (leftS s e b) bm 0 := by
  have b0 := rs_m W
  have b1 := rs_e W
  have g := (ci_L I).2.2
  have e18 := hC.1
  obtain ⟨h', W'⟩ := rh_of (ci_L I) (rs_left W.2.2 hC hb)
  have l111 : ∀ x, leftS s e b 111 x = if x = e then b else s 111 x := fun x => rfl
  have bit : ∀ x, (stB (thoN s) e (b = 0)).testBit x = true ↔ x < leftS s e b 107 18 ∧ leftS s e b 111 x = 0 := by
    intro x
    rw [stB_bit, l111]
    show _ ↔ x < s 107 18 ∧ _
    by_cases z : x = e
    · rw [if_pos z, if_pos z, z]
      exact ⟨fun y => ⟨e18, y⟩, fun y => y.2⟩
    · rw [if_neg z, if_neg z]
      exact tho_bit W x
  have et := tho_eq W' bit
  have es : csL (s 108) (stB (thoN s) e (b = 0)) (s 107 18) = seatsL (leftS s e b) := csL_seats W' (fun x hx => (bit x).trans ⟨fun y => y.2, fun y => ⟨hx, y⟩⟩)
  rw [es] at g5 gA
  have FP := F
  have FB := F.fg
  obtain ⟨⟨c1, c2, c3⟩, c4, c5, c6, c7⟩ := ci_C I
  have pu := ci_pu I
  refine ⟨FB.lay (ci_L I) (fun a j y => by first | exact y.elim | (unfold isT; omega)), ⟨⟨g4.trans c1, g5, by rw [g6, et]⟩, ?_, ?_, gA, ?_⟩, Fg.ct (s := s) FB g (ci_ct I) (fun q => by omega), Fg.mt (s := s) FB g (ci_m I) (fun m hm => rs_law W hm) (fun m hm a q => by have := ci_b I hm; omega) (fun m hm a j y => by first | exact y.elim | (have := ci_b I hm; omega)) (fun j _ y => (by first | exact y.elim | omega)) (fun j _ y => (by first | exact y.elim | omega)), (show BO s bm from ci_bo I), Fg.txa (s := s) FB g (ci_tx I) (fun t ht a q => by have := isTx_b (ci_tx I) ht; omega) (fun t ht j y => by first | exact y.elim | (have := isTx_b (ci_tx I) ht; omega)) (fun j _ y => (by first | exact y.elim | omega)) (fun j _ y => (by first | exact y.elim | omega)), Fg.dj (s := s) FB g (ci_dj I) (fun j _ y => (by first | exact y.elim | omega)) (fun j _ y => (by first | exact y.elim | omega)), Fg.tpc (s := s) FB g (ci_tp I) ⟨fun q => by omega, fun q => by omega⟩, Fg.plc (s := s) FB g (ci_pl I) (fun a q => by omega), Fg.gfc (s := s) FB g (ci_gf I) (by rw [FB.2.2.1 61 (by omega) (fun q => by omega)]) (fun a q => by omega), Fg.asc (s := s) FB g (ci_as I) (fun a q => by omega), Fg.twc (s := s) FB g (ci_tw I) (fun a ha q => by have := ta_b ha; unfold isT at ha; omega), std_0, ⟨pu.1, pu.2.1, pu.2.2.1, pu.2.2.2.1, fun x hx hx2 => ?_⟩⟩
  · rw [F.2 22 (fun q => by have q2 : 22 = 21 ∨ 22 = 33 := q; omega)]
    exact c4
  · intro x o hx ho
    rw [F.2 (24 + x) (fun q => by have q2 : 24 + x = 21 ∨ 24 + x = 33 := q; omega)]
    exact c5 x o hx ho
  · intro x hx
    show gr H 32 x = mdR H s x
    unfold mdR
    rw [F.gr]
    exact c7 x hx
  · have hx3 : s 107 18 ≤ x := hx2
    rw [l111, if_neg (by omega)]
    exact pu.2.2.2.2 x hx hx3
theorem c_T_left (W : RH h s) {h2 : AH} (I : CI h2 s bm c) {e b : Nat} (he : e < 4294967296) (hb : b ≤ 1) : Mz (d + 3) 2 [.ref 20, .int (nI e), .int (nI b)] h2 0 0 (PC2 (bP (leftC s e b)) (ifS (leftC s e b) (leftS s e b) s) h2) := by
  have b1 := rs_e W
  have g := (ci_L I).2.2
  have th := tho_lt W
  have l111 := rs_lf W e
  refine mz_in (l := [some (.ref 20), some (.int (nI e)), some (.int (nI b))]) mk_T_left n_T_left rfl l_T_left rfl (Nat.le_of_ble_eq_true rfl) fun P hP => ?_
  have no : ¬ leftC s e b → P 23 [some (.ref 20), some (.int (nI e)), some (.int (nI b))] [] h2 0 0 := by
    intro q
    refine hP.1 _ _ s_T_left_23 _ _ _ _ _ ?_
    simp (maxSteps := 1000000) (disch := omega) only [g_T_left_23, slk, List.map_cons, List.map_nil, List.sum_cons, List.sum_nil, vc_i, vc_r, vc_n, vc_l, vc_o, Nat.add_zero, kO_e, kA_e, hdO_a, eq_self, blk, stp, lg, ls0, lk, ls1, ls2, kI_i, kL_l, kR_r, kR_n, kR_o, s1I_i, s2I_i, s1L_l, s2L_l, s1R_r, s1R_n, s1R_o, s1A_a, cmpc, popn, swt, rf_s, rf_n, cat_i, cat_r, cat_n, cat_l, true_and, and_true, List.length_cons, List.length_nil, Nat.zero_add, Int.reduceToNat, Nat.reduceAdd, Nat.reduceDiv, Nat.reduceMod, Nat.reduceMul, Nat.reduceSub, Nat.reduceLeDiff, Nat.reduceLT, Nat.reduceEqDiff, ↓reduceIte, r_gr_wi, r_gl_wi, r_gk_wi, r_gn_wi, r_wi_eq, r_wi_ne, r_wi_nj, r_gi_wr, r_gl_wr, r_gk_wr, r_gn_wr, r_gr_wa, r_gl_wa, r_gk_wa, r_gn_wa, aa_e, as_e, al_e, u_lt, u_le, u_gt, u_ge, u_lt0, u_le0, u_gt0, u_ge0, Classical.not_not, not_true_eq_false, not_false_eq_true, oi_n, oi_m, n_dec, nI_add, pk_mul, n_sub, n_eq, n_le, n_lt, n_eq0, n_lt0, n_le0, n_0lt, n_0le, n_eqm, m_eqn, n_ltm, n_and, n_or, n_xor, n_shl, n_shr, tb1, tb0, bP_1, bP_0, bP_n0, ix_n, inb_n, u_eq, u_eqm]
    exact lzF r_T_left q (FrC.refl _) I
  refine hP.1 _ _ s_T_left_0 _ _ _ _ _ ?_
  simp (maxSteps := 1000000) (disch := omega) only [g_T_left_0, slk, List.map_cons, List.map_nil, List.sum_cons, List.sum_nil, vc_i, vc_r, vc_n, vc_l, vc_o, Nat.add_zero, kO_e, kA_e, hdO_a, eq_self, blk, stp, lg, ls0, lk, ls1, ls2, kI_i, kL_l, kR_r, kR_n, kR_o, s1I_i, s2I_i, s1L_l, s2L_l, s1R_r, s1R_n, s1R_o, s1A_a, cmpc, popn, swt, rf_s, rf_n, cat_i, cat_r, cat_n, cat_l, true_and, and_true, List.length_cons, List.length_nil, Nat.zero_add, Int.reduceToNat, Nat.reduceAdd, Nat.reduceDiv, Nat.reduceMod, Nat.reduceMul, Nat.reduceSub, Nat.reduceLeDiff, Nat.reduceLT, Nat.reduceEqDiff, ↓reduceIte, r_gr_wi, r_gl_wi, r_gk_wi, r_gn_wi, r_wi_eq, r_wi_ne, r_wi_nj, r_gi_wr, r_gl_wr, r_gk_wr, r_gn_wr, r_gr_wa, r_gl_wa, r_gk_wa, r_gn_wa, aa_e, as_e, al_e, u_lt, u_le, u_gt, u_ge, u_lt0, u_le0, u_gt0, u_ge0, Classical.not_not, not_true_eq_false, not_false_eq_true, oi_n, oi_m, n_dec, nI_add, pk_mul, n_sub, n_eq, n_le, n_lt, n_eq0, n_lt0, n_le0, n_0lt, n_0le, n_eqm, m_eqn, n_ltm, n_and, n_or, n_xor, n_shl, n_shr, tb1, tb0, bP_1, bP_0, bP_n0, ix_n, inb_n, u_eq, u_eqm, k20 (ci_L I), f20_0 (ci_L I), k21 (ci_L I)]
  refine wc (c_Ci_has (ci_L I) (ci_C I).1.1 b1 he) ⟨by omega, by omega⟩ ?_
  simp (maxSteps := 1000000) (disch := omega) only [slk, List.map_cons, List.map_nil, List.sum_cons, List.sum_nil, vc_i, vc_r, vc_n, vc_l, vc_o, Nat.add_zero, kO_e, kA_e, hdO_a, eq_self, blk, stp, lg, ls0, lk, ls1, ls2, kI_i, kL_l, kR_r, kR_n, kR_o, s1I_i, s2I_i, s1L_l, s2L_l, s1R_r, s1R_n, s1R_o, s1A_a, cmpc, popn, swt, rf_s, rf_n, cat_i, cat_r, cat_n, cat_l, true_and, and_true, List.length_cons, List.length_nil, Nat.zero_add, Int.reduceToNat, Nat.reduceAdd, Nat.reduceDiv, Nat.reduceMod, Nat.reduceMul, Nat.reduceSub, Nat.reduceLeDiff, Nat.reduceLT, Nat.reduceEqDiff, ↓reduceIte, r_gr_wi, r_gl_wi, r_gk_wi, r_gn_wi, r_wi_eq, r_wi_ne, r_wi_nj, r_gi_wr, r_gl_wr, r_gk_wr, r_gn_wr, r_gr_wa, r_gl_wa, r_gk_wa, r_gn_wa, aa_e, as_e, al_e, u_lt, u_le, u_gt, u_ge, u_lt0, u_le0, u_gt0, u_ge0, Classical.not_not, not_true_eq_false, not_false_eq_true, oi_n, oi_m, n_dec, nI_add, pk_mul, n_sub, n_eq, n_le, n_lt, n_eq0, n_lt0, n_le0, n_0lt, n_0le, n_eqm, m_eqn, n_ltm, n_and, n_or, n_xor, n_shl, n_shr, tb1, tb0, bP_1, bP_0, bP_n0, ix_n, inb_n, u_eq, u_eqm, k20 (ci_L I), f20_0 (ci_L I), k21 (ci_L I)]
  refine ⟨fun z => no (fun y => z y.1), fun z => ?_⟩
  have he1 : e < s 107 18 := by first | exact z | exact Classical.not_not.mp z | (simpa using z)
  have tb := tho_bit W e
  have I1 := ci_uns W I (c2 := min c 0) (Nat.min_le_left _ _)
  have m0 : min c 0 = 0 := by omega
  have go : leftC s e b → P 25 [some (.ref 20), some (.int (nI e)), some (.int (nI b))] [] h2 0 0 := by
    intro hC
    have fin : ∀ v : Int32, v = bP (b = 0) → P 44 [some (.ref 20), some (.int (nI e)), some (.int (nI b))] [.int v, .int (nI e), .ref 21] (wi h2 20 17 (nI (min c 0))) 0 0 := by
      intro v ev
      have i1 := ci_C I1
      refine hP.1 _ _ s_T_left_44 _ _ _ _ _ ?_
      simp (maxSteps := 1000000) (disch := omega) only [g_T_left_44, slk, List.map_cons, List.map_nil, List.sum_cons, List.sum_nil, vc_i, vc_r, vc_n, vc_l, vc_o, Nat.add_zero, kO_e, kA_e, hdO_a, eq_self, blk, stp, lg, ls0, lk, ls1, ls2, kI_i, kL_l, kR_r, kR_n, kR_o, s1I_i, s2I_i, s1L_l, s2L_l, s1R_r, s1R_n, s1R_o, s1A_a, cmpc, popn, swt, rf_s, rf_n, cat_i, cat_r, cat_n, cat_l, true_and, and_true, List.length_cons, List.length_nil, Nat.zero_add, Int.reduceToNat, Nat.reduceAdd, Nat.reduceDiv, Nat.reduceMod, Nat.reduceMul, Nat.reduceSub, Nat.reduceLeDiff, Nat.reduceLT, Nat.reduceEqDiff, ↓reduceIte, r_gr_wi, r_gl_wi, r_gk_wi, r_gn_wi, r_wi_eq, r_wi_ne, r_wi_nj, r_gi_wr, r_gl_wr, r_gk_wr, r_gn_wr, r_gr_wa, r_gl_wa, r_gk_wa, r_gn_wa, aa_e, as_e, al_e, u_lt, u_le, u_gt, u_ge, u_lt0, u_le0, u_gt0, u_ge0, Classical.not_not, not_true_eq_false, not_false_eq_true, oi_n, oi_m, n_dec, nI_add, pk_mul, n_sub, n_eq, n_le, n_lt, n_eq0, n_lt0, n_le0, n_0lt, n_0le, n_eqm, m_eqn, n_ltm, n_and, n_or, n_xor, n_shl, n_shr, tb1, tb0, bP_1, bP_0, bP_n0, ix_n, inb_n, u_eq, u_eqm, k21 (ci_L I), k21 (ci_L I)]
      rw [ev]
      refine ⟨_, _, _, c_Ci_setSitting (ag := s 108) (b := thoN s) (n := s 107 18) (is := b = 0) (ci_L I1) i1.1.1 i1.1.2.2 b1 (by omega) (e := e) (by omega) (fun x hx => ⟨i1.2.1 x hx, by have := rs_age W hx; omega⟩), ⟨by omega, by omega⟩, ?_⟩
      rintro r H ⟨rfl, F, g46, g5, gA⟩
      simp (maxSteps := 1000000) (disch := omega) only [slk, List.map_cons, List.map_nil, List.sum_cons, List.sum_nil, vc_i, vc_r, vc_n, vc_l, vc_o, Nat.add_zero, kO_e, kA_e, hdO_a, eq_self, blk, stp, lg, ls0, lk, ls1, ls2, kI_i, kL_l, kR_r, kR_n, kR_o, s1I_i, s2I_i, s1L_l, s2L_l, s1R_r, s1R_n, s1R_o, s1A_a, cmpc, popn, swt, rf_s, rf_n, cat_i, cat_r, cat_n, cat_l, true_and, and_true, List.length_cons, List.length_nil, Nat.zero_add, Int.reduceToNat, Nat.reduceAdd, Nat.reduceDiv, Nat.reduceMod, Nat.reduceMul, Nat.reduceSub, Nat.reduceLeDiff, Nat.reduceLT, Nat.reduceEqDiff, ↓reduceIte, r_gr_wi, r_gl_wi, r_gk_wi, r_gn_wi, r_wi_eq, r_wi_ne, r_wi_nj, r_gi_wr, r_gl_wr, r_gk_wr, r_gn_wr, r_gr_wa, r_gl_wa, r_gk_wa, r_gn_wa, aa_e, as_e, al_e, u_lt, u_le, u_gt, u_ge, u_lt0, u_le0, u_gt0, u_ge0, Classical.not_not, not_true_eq_false, not_false_eq_true, oi_n, oi_m, n_dec, nI_add, pk_mul, n_sub, n_eq, n_le, n_lt, n_eq0, n_lt0, n_le0, n_0lt, n_0le, n_eqm, m_eqn, n_ltm, n_and, n_or, n_xor, n_shl, n_shr, tb1, tb0, bP_1, bP_0, bP_n0, ix_n, inb_n, u_eq, u_eqm, k21 (ci_L I), k21 (ci_L I)]
      have J := ci_left W (m0 ▸ I1) hC hb (m0 ▸ F) (m0 ▸ g46.1) g46.2 g5 gA
      exact lzT r_T_left hC ((frc_uns g _).trans (frc_fp F g (fun a q => by have q2 : a = 21 ∨ a = 33 := q; unfold clR; omega))) J
    refine hP.1 _ _ s_T_left_25 _ _ _ _ _ ?_
    simp (maxSteps := 1000000) (disch := omega) only [g_T_left_25, slk, List.map_cons, List.map_nil, List.sum_cons, List.sum_nil, vc_i, vc_r, vc_n, vc_l, vc_o, Nat.add_zero, kO_e, kA_e, hdO_a, eq_self, blk, stp, lg, ls0, lk, ls1, ls2, kI_i, kL_l, kR_r, kR_n, kR_o, s1I_i, s2I_i, s1L_l, s2L_l, s1R_r, s1R_n, s1R_o, s1A_a, cmpc, popn, swt, rf_s, rf_n, cat_i, cat_r, cat_n, cat_l, true_and, and_true, List.length_cons, List.length_nil, Nat.zero_add, Int.reduceToNat, Nat.reduceAdd, Nat.reduceDiv, Nat.reduceMod, Nat.reduceMul, Nat.reduceSub, Nat.reduceLeDiff, Nat.reduceLT, Nat.reduceEqDiff, ↓reduceIte, r_gr_wi, r_gl_wi, r_gk_wi, r_gn_wi, r_wi_eq, r_wi_ne, r_wi_nj, r_gi_wr, r_gl_wr, r_gk_wr, r_gn_wr, r_gr_wa, r_gl_wa, r_gk_wa, r_gn_wa, aa_e, as_e, al_e, u_lt, u_le, u_gt, u_ge, u_lt0, u_le0, u_gt0, u_ge0, Classical.not_not, not_true_eq_false, not_false_eq_true, oi_n, oi_m, n_dec, nI_add, pk_mul, n_sub, n_eq, n_le, n_lt, n_eq0, n_lt0, n_le0, n_0lt, n_0le, n_eqm, m_eqn, n_ltm, n_and, n_or, n_xor, n_shl, n_shr, tb1, tb0, bP_1, bP_0, bP_n0, ix_n, inb_n, u_eq, u_eqm, k20 (ci_L I), f20_0 (ci_L I), k21 (ci_L I)]
    refine wcv (c_T_unsettleFrom W I (m := 0) (by omega)) ⟨by omega, by omega⟩ ?_
    simp (maxSteps := 1000000) (disch := omega) only [slk, List.map_cons, List.map_nil, List.sum_cons, List.sum_nil, vc_i, vc_r, vc_n, vc_l, vc_o, Nat.add_zero, kO_e, kA_e, hdO_a, eq_self, blk, stp, lg, ls0, lk, ls1, ls2, kI_i, kL_l, kR_r, kR_n, kR_o, s1I_i, s2I_i, s1L_l, s2L_l, s1R_r, s1R_n, s1R_o, s1A_a, cmpc, popn, swt, rf_s, rf_n, cat_i, cat_r, cat_n, cat_l, true_and, and_true, List.length_cons, List.length_nil, Nat.zero_add, Int.reduceToNat, Nat.reduceAdd, Nat.reduceDiv, Nat.reduceMod, Nat.reduceMul, Nat.reduceSub, Nat.reduceLeDiff, Nat.reduceLT, Nat.reduceEqDiff, ↓reduceIte, r_gr_wi, r_gl_wi, r_gk_wi, r_gn_wi, r_wi_eq, r_wi_ne, r_wi_nj, r_gi_wr, r_gl_wr, r_gk_wr, r_gn_wr, r_gr_wa, r_gl_wa, r_gk_wa, r_gn_wa, aa_e, as_e, al_e, u_lt, u_le, u_gt, u_ge, u_lt0, u_le0, u_gt0, u_ge0, Classical.not_not, not_true_eq_false, not_false_eq_true, oi_n, oi_m, n_dec, nI_add, pk_mul, n_sub, n_eq, n_le, n_lt, n_eq0, n_lt0, n_le0, n_0lt, n_0le, n_eqm, m_eqn, n_ltm, n_and, n_or, n_xor, n_shl, n_shr, tb1, tb0, bP_1, bP_0, bP_n0, ix_n, inb_n, u_eq, u_eqm, k20 (ci_L I), f20_0 (ci_L I), k21 (ci_L I)]
    refine ⟨fun z => ?_, fun z => ?_⟩
    · refine hP.1 _ _ s_T_left_43 _ _ _ _ _ ?_
      simp (maxSteps := 1000000) (disch := omega) only [g_T_left_43, slk, List.map_cons, List.map_nil, List.sum_cons, List.sum_nil, vc_i, vc_r, vc_n, vc_l, vc_o, Nat.add_zero, kO_e, kA_e, hdO_a, eq_self, blk, stp, lg, ls0, lk, ls1, ls2, kI_i, kL_l, kR_r, kR_n, kR_o, s1I_i, s2I_i, s1L_l, s2L_l, s1R_r, s1R_n, s1R_o, s1A_a, cmpc, popn, swt, rf_s, rf_n, cat_i, cat_r, cat_n, cat_l, true_and, and_true, List.length_cons, List.length_nil, Nat.zero_add, Int.reduceToNat, Nat.reduceAdd, Nat.reduceDiv, Nat.reduceMod, Nat.reduceMul, Nat.reduceSub, Nat.reduceLeDiff, Nat.reduceLT, Nat.reduceEqDiff, ↓reduceIte, r_gr_wi, r_gl_wi, r_gk_wi, r_gn_wi, r_wi_eq, r_wi_ne, r_wi_nj, r_gi_wr, r_gl_wr, r_gk_wr, r_gn_wr, r_gr_wa, r_gl_wa, r_gk_wa, r_gn_wa, aa_e, as_e, al_e, u_lt, u_le, u_gt, u_ge, u_lt0, u_le0, u_gt0, u_ge0, Classical.not_not, not_true_eq_false, not_false_eq_true, oi_n, oi_m, n_dec, nI_add, pk_mul, n_sub, n_eq, n_le, n_lt, n_eq0, n_lt0, n_le0, n_0lt, n_0le, n_eqm, m_eqn, n_ltm, n_and, n_or, n_xor, n_shl, n_shr, tb1, tb0, bP_1, bP_0, bP_n0, ix_n, inb_n, u_eq, u_eqm]
      exact fin _ (bP_f (by omega)).symm
    · refine hP.1 _ _ s_T_left_39 _ _ _ _ _ ?_
      simp (maxSteps := 1000000) (disch := omega) only [g_T_left_39, slk, List.map_cons, List.map_nil, List.sum_cons, List.sum_nil, vc_i, vc_r, vc_n, vc_l, vc_o, Nat.add_zero, kO_e, kA_e, hdO_a, eq_self, blk, stp, lg, ls0, lk, ls1, ls2, kI_i, kL_l, kR_r, kR_n, kR_o, s1I_i, s2I_i, s1L_l, s2L_l, s1R_r, s1R_n, s1R_o, s1A_a, cmpc, popn, swt, rf_s, rf_n, cat_i, cat_r, cat_n, cat_l, true_and, and_true, List.length_cons, List.length_nil, Nat.zero_add, Int.reduceToNat, Nat.reduceAdd, Nat.reduceDiv, Nat.reduceMod, Nat.reduceMul, Nat.reduceSub, Nat.reduceLeDiff, Nat.reduceLT, Nat.reduceEqDiff, ↓reduceIte, r_gr_wi, r_gl_wi, r_gk_wi, r_gn_wi, r_wi_eq, r_wi_ne, r_wi_nj, r_gi_wr, r_gl_wr, r_gk_wr, r_gn_wr, r_gr_wa, r_gl_wa, r_gk_wa, r_gn_wa, aa_e, as_e, al_e, u_lt, u_le, u_gt, u_ge, u_lt0, u_le0, u_gt0, u_ge0, Classical.not_not, not_true_eq_false, not_false_eq_true, oi_n, oi_m, n_dec, nI_add, pk_mul, n_sub, n_eq, n_le, n_lt, n_eq0, n_lt0, n_le0, n_0lt, n_0le, n_eqm, m_eqn, n_ltm, n_and, n_or, n_xor, n_shl, n_shr, tb1, tb0, bP_1, bP_0, bP_n0, ix_n, inb_n, u_eq, u_eqm]
      exact fin _ (bP_t (by omega)).symm
  have cmp : (bP ((thoN s).testBit e = true) = nI b) ↔ leftC s e b := by
    unfold leftC
    rcases (by omega : b = 0 ∨ b = 1) with rfl | rfl
    · rw [bP_n0, tb]
      exact ⟨fun y => ⟨he1, fun y2 => y ⟨he1, y2⟩⟩, fun y y2 => y.2 y2.2⟩
    · rw [bP_1, tb]
      exact ⟨fun y => ⟨he1, by omega⟩, fun y => ⟨he1, by omega⟩⟩
  refine hP.1 _ _ s_T_left_11 _ _ _ _ _ ?_
  simp (maxSteps := 1000000) (disch := omega) only [g_T_left_11, slk, List.map_cons, List.map_nil, List.sum_cons, List.sum_nil, vc_i, vc_r, vc_n, vc_l, vc_o, Nat.add_zero, kO_e, kA_e, hdO_a, eq_self, blk, stp, lg, ls0, lk, ls1, ls2, kI_i, kL_l, kR_r, kR_n, kR_o, s1I_i, s2I_i, s1L_l, s2L_l, s1R_r, s1R_n, s1R_o, s1A_a, cmpc, popn, swt, rf_s, rf_n, cat_i, cat_r, cat_n, cat_l, true_and, and_true, List.length_cons, List.length_nil, Nat.zero_add, Int.reduceToNat, Nat.reduceAdd, Nat.reduceDiv, Nat.reduceMod, Nat.reduceMul, Nat.reduceSub, Nat.reduceLeDiff, Nat.reduceLT, Nat.reduceEqDiff, ↓reduceIte, r_gr_wi, r_gl_wi, r_gk_wi, r_gn_wi, r_wi_eq, r_wi_ne, r_wi_nj, r_gi_wr, r_gl_wr, r_gk_wr, r_gn_wr, r_gr_wa, r_gl_wa, r_gk_wa, r_gn_wa, aa_e, as_e, al_e, u_lt, u_le, u_gt, u_ge, u_lt0, u_le0, u_gt0, u_ge0, Classical.not_not, not_true_eq_false, not_false_eq_true, oi_n, oi_m, n_dec, nI_add, pk_mul, n_sub, n_eq, n_le, n_lt, n_eq0, n_lt0, n_le0, n_0lt, n_0le, n_eqm, m_eqn, n_ltm, n_and, n_or, n_xor, n_shl, n_shr, tb1, tb0, bP_1, bP_0, bP_n0, ix_n, inb_n, u_eq, u_eqm, k20 (ci_L I), f20_0 (ci_L I), k21 (ci_L I)]
  refine wc (c_Ci_sits (ci_L I) (ci_C I).1.2.2 (b := thoN s) (by omega) (e := e) (by omega)) ⟨by omega, by omega⟩ ?_
  simp (maxSteps := 1000000) (disch := omega) only [slk, List.map_cons, List.map_nil, List.sum_cons, List.sum_nil, vc_i, vc_r, vc_n, vc_l, vc_o, Nat.add_zero, kO_e, kA_e, hdO_a, eq_self, blk, stp, lg, ls0, lk, ls1, ls2, kI_i, kL_l, kR_r, kR_n, kR_o, s1I_i, s2I_i, s1L_l, s2L_l, s1R_r, s1R_n, s1R_o, s1A_a, cmpc, popn, swt, rf_s, rf_n, cat_i, cat_r, cat_n, cat_l, true_and, and_true, List.length_cons, List.length_nil, Nat.zero_add, Int.reduceToNat, Nat.reduceAdd, Nat.reduceDiv, Nat.reduceMod, Nat.reduceMul, Nat.reduceSub, Nat.reduceLeDiff, Nat.reduceLT, Nat.reduceEqDiff, ↓reduceIte, r_gr_wi, r_gl_wi, r_gk_wi, r_gn_wi, r_wi_eq, r_wi_ne, r_wi_nj, r_gi_wr, r_gl_wr, r_gk_wr, r_gn_wr, r_gr_wa, r_gl_wa, r_gk_wa, r_gn_wa, aa_e, as_e, al_e, u_lt, u_le, u_gt, u_ge, u_lt0, u_le0, u_gt0, u_ge0, Classical.not_not, not_true_eq_false, not_false_eq_true, oi_n, oi_m, n_dec, nI_add, pk_mul, n_sub, n_eq, n_le, n_lt, n_eq0, n_lt0, n_le0, n_0lt, n_0le, n_eqm, m_eqn, n_ltm, n_and, n_or, n_xor, n_shl, n_shr, tb1, tb0, bP_1, bP_0, bP_n0, ix_n, inb_n, u_eq, u_eqm, k20 (ci_L I), f20_0 (ci_L I), k21 (ci_L I)]
  exact ⟨fun z => go (cmp.mp z), fun z => no (fun y => z (cmp.mpr y))⟩
/-! a new elder -/
section
variable (s : St) (a : Nat)
theorem el_08 (x : Nat) : elderS s a 108 x = if x = s 107 18 then a else s 108 x := rfl
theorem el_18 (x : Nat) : elderS s a 118 x = if x = s 107 18 then 4294967295 else s 118 x := rfl
theorem el_14 (j : Nat) : elderS s a 114 j = if 80 * s 107 18 ≤ j ∧ j < 80 * s 107 18 + 80 then 1 else s 114 j := rfl
theorem el_15 (j : Nat) : elderS s a 115 j = if 20 * s 107 18 ≤ j ∧ j < 20 * s 107 18 + 20 then 1 else s 115 j := rfl
end
theorem cn_elder {a m v e : Nat} (hm : m < 4) (hv : v ≠ 1) : cnN (elderS s a) m v e = cnN s m v e := by
  refine Nat.eq_of_testBit_eq fun i => Bool.eq_iff_iff.mpr ?_
  rw [cn_bit, cn_bit, el_14]
  show i < 20 ∧ e < s 107 18 + 1 ∧ _ ↔ _
  by_cases i20 : i < 20
  · by_cases z : e < s 107 18
    · rw [if_neg (by omega)]
      exact ⟨fun y => ⟨y.1, z, y.2.2⟩, fun y => ⟨y.1, by omega, y.2.2⟩⟩
    · by_cases z2 : e = s 107 18
      · rw [if_pos (by omega)]
        exact ⟨fun y => absurd y.2.2.symm hv, fun y => absurd y.2.1 z⟩
      · exact ⟨fun y => by have := y.2.1; omega, fun y => absurd y.2.1 z⟩
  · exact ⟨fun y => absurd y.1 i20, fun y => absurd y.1 i20⟩
theorem cr_elder {a m e p : Nat} (hm : m < 4) (hp : p < 5) : crN (elderS s a) m e p = crN s m e p := by
  unfold crN
  rw [el_15]
  show nif (e < s 107 18 + 1) _ 1 = _
  by_cases z : e < s 107 18
  · rw [nif_t z, nif_t (by omega), if_neg (by omega)]
  · rw [nif_f z]
    by_cases z2 : e = s 107 18
    · rw [nif_t (by omega), if_pos (by omega)]
    · rw [nif_f (by omega)]
theorem ci_elder (W : RH h s) {h2 H : AH} (I : CI h2 s bm 0) {a : Nat} (hC : elderC s a) (F : Fp (fun x => x = 21 ∨ x = 22 ∨ x = 33) h2 H) (h22 : ∀ x, x < s 107 18 + 1 → gi H 22 x = nI (elderS s a 108 x)) (g4 : gi H 21 4 = nI (s 107 18 + 1)) (g6 : gi H 21 6 = nI (stB (thoN s) (s 107 18) True)) (g5 : gi H 21 5 = nI (csL (elderS s a 108) (stB (thoN s) (s 107 18) True) (s 107 18 + 1)).length) (gA : ∀ k, k < (csL (elderS s a 108) (stB (thoN s) (s 107 18) True) (s 107 18 + 1)).length → gi H 33 k = nI ((csL (elderS s a 108) (stB (thoN s) (s 107 18) True) (s 107 18 + 1)).getD k 0)) : CI H (elderS s a) bm 0 := by
  have b0 := rs_m W
  have b1 := rs_e W
  have g := (ci_L I).2.2
  have n8 := hC.1
  obtain ⟨h', W'⟩ := rh_of (ci_L I) (rs_elder W.2.2 hC)
  have pu := ci_pu I
  have z111 := pu.2.2.2.2 (s 107 18) (by omega) (Nat.le_refl _)
  have bit : ∀ x, (stB (thoN s) (s 107 18) True).testBit x = true ↔ x < elderS s a 107 18 ∧ elderS s a 111 x = 0 := by
    intro x
    rw [stB_bit]
    show _ ↔ x < s 107 18 + 1 ∧ s 111 x = 0
    by_cases z : x = s 107 18
    · rw [if_pos z, z]
      exact ⟨fun _ => ⟨by omega, z111⟩, fun _ => trivial⟩
    · rw [if_neg z, tho_bit W x]
      exact ⟨fun y => ⟨by omega, y.2⟩, fun y => ⟨by omega, y.2⟩⟩
  have et := tho_eq W' bit
  have es : csL (elderS s a 108) (stB (thoN s) (s 107 18) True) (s 107 18 + 1) = seatsL (elderS s a) := csL_seats W' (fun x hx => (bit x).trans ⟨fun y => y.2, fun y => ⟨hx, y⟩⟩)
  rw [es] at g5 gA
  have FP := F
  have FB := F.fg
  obtain ⟨⟨c1, c2, c3⟩, c4, c5, c6, c7⟩ := ci_C I
  refine ⟨FB.lay (ci_L I) (fun a j y => by first | exact y.elim | (unfold isT; omega)), ⟨⟨g4, g5, by rw [g6, et]⟩, h22, ?_, gA, ?_⟩, Fg.ct (s := s) FB g (ci_ct I) (fun q => by omega), ?_, (show BO s bm from ci_bo I), Fg.txa (s := s) FB g (ci_tx I) (fun t ht a q => by have := isTx_b (ci_tx I) ht; omega) (fun t ht j y => by first | exact y.elim | (have := isTx_b (ci_tx I) ht; omega)) (fun j _ y => (by first | exact y.elim | omega)) (fun j _ y => (by first | exact y.elim | omega)), Fg.dj (s := s) FB g (ci_dj I) (fun j _ y => (by first | exact y.elim | omega)) (fun j _ y => (by first | exact y.elim | omega)), Fg.tpc (s := s) FB g (ci_tp I) ⟨fun q => by omega, fun q => by omega⟩, Fg.plc (s := s) FB g (ci_pl I) (fun a q => by omega), Fg.gfc (s := s) FB g (ci_gf I) (by rw [FB.2.2.1 61 (by omega) (fun q => by omega)]) (fun a q => by omega), Fg.asc (s := s) FB g (ci_as I) (fun a q => by omega), Fg.twc (s := s) FB g (ci_tw I) (fun a ha q => by have := ta_b ha; unfold isT at ha; omega), std_0, ⟨⟨?_, ?_, ?_⟩, pu.2.1, pu.2.2.1, pu.2.2.2.1, fun x hx hx2 => ?_⟩⟩
  · intro x o hx ho
    rw [F.2 (24 + x) (fun q => by have q2 : 24 + x = 21 ∨ 24 + x = 22 ∨ 24 + x = 33 := q; omega)]
    exact c5 x o hx ho
  · intro x hx
    rw [F.gr, c7 x hx]
    unfold mdR
    rw [el_18, F.gr]
    show (if x < s 107 18 ∧ s 118 x ≠ 4294967295 then gr h2 41 (s 118 x) else none) = if x < s 107 18 + 1 ∧ (if x = s 107 18 then 4294967295 else s 118 x) ≠ 4294967295 then gr h2 41 (if x = s 107 18 then 4294967295 else s 118 x) else none
    by_cases z : x = s 107 18
    · rw [if_neg (fun y => by omega), if_neg (fun y => y.2 (if_pos z))]
    · rw [if_neg z]
      by_cases z2 : x < s 107 18 ∧ s 118 x ≠ 4294967295
      · rw [if_pos z2, if_pos ⟨by omega, z2.2⟩]
      · rw [if_neg z2, if_neg (fun y => z2 ⟨by omega, y.2⟩)]
  · intro m hm
    have hm' : m < s 107 19 := hm
    obtain ⟨m1, mA, mV, mR⟩ := ci_m I m hm'
    have bb := ci_b I hm'
    obtain ⟨v1, v2, v3, v4, v5⟩ := FP.mv mV (fun a q => by have q2 : a = 21 ∨ a = 22 ∨ a = 33 := q; omega)
    refine ⟨by rw [FP.gr]; exact m1, FP.ma mA, ⟨v1, v2, fun e he => ?_, fun e p he hp => ?_, v5⟩, ?_⟩
    · rw [cn_elder (by omega) (by omega), cn_elder (by omega) (by omega)]
      exact v3 e he
    · rw [cr_elder (by omega) hp]
      exact v4 e p he hp
    · show gr H (bm m) 10 = lwR H s m
      unfold lwR
      rw [FP.gr]
      exact mR
  · intro e m p w z1 z2 z3 z4 z5
    have z1' : e < s 107 18 + 1 := z1
    rw [el_14]
    by_cases y : e < s 107 18
    · rw [if_neg (by omega)]
      exact pu.1.1 e m p w y z2 z3 z4 z5
    · rw [if_pos (by omega)]
  · intro e m p z1 z2 z3 z5
    have z1' : e < s 107 18 + 1 := z1
    rw [el_15]
    by_cases y : e < s 107 18
    · rw [if_neg (by omega)]
      exact pu.1.2.1 e m p y z2 z3 z5
    · rw [if_pos (by omega)]
  · intro e o z1 z2 z3
    have z3' : s 107 18 + 1 ≤ e ∨ s 107 18 + 1 ≤ o ∨ e = o := z3
    exact pu.1.2.2 e o z1 z2 (by omega)
  · have hx3 : s 107 18 + 1 ≤ x := hx2
    exact pu.2.2.2.2 x hx (by omega)
def PEl (h : AH) (s : St) (a : Nat) (r : Option (Option Value)) (h' : AH) : Prop := r = some (some (.int (nI (s 107 18)))) ∧ Fp (fun x => x = 21 ∨ x = 22 ∨ x = 33) h h' ∧ ∃ bm, CI h' (elderS s a) bm 0
theorem c_Ci_add (W : RH h s) {h2 : AH} (I : CI h2 s bm 0) {a : Nat} (hC : elderC s a) : Mz (d + 3) 153 [.ref 21, .int (nI a)] h2 0 0 (PEl h2 s a) := by
  have b1 := rs_e W
  have th := tho_lt W
  have n8 := hC.1
  have i1 := ci_C I
  refine mz_in (l := [some (.ref 21), some (.int (nI a))]) mk_Ci_add n_Ci_add rfl l_Ci_add rfl (Nat.le_of_ble_eq_true rfl) fun P hP => ?_
  refine hP.1 _ _ s_Ci_add_0 _ _ _ _ _ ?_
  simp (maxSteps := 1000000) (disch := omega) only [g_Ci_add_0, slk, List.map_cons, List.map_nil, List.sum_cons, List.sum_nil, vc_i, vc_r, vc_n, vc_l, vc_o, Nat.add_zero, kO_e, kA_e, hdO_a, eq_self, blk, stp, lg, ls0, lk, ls1, ls2, kI_i, kL_l, kR_r, kR_n, kR_o, s1I_i, s2I_i, s1L_l, s2L_l, s1R_r, s1R_n, s1R_o, s1A_a, cmpc, popn, swt, rf_s, rf_n, cat_i, cat_r, cat_n, cat_l, true_and, and_true, List.length_cons, List.length_nil, Nat.zero_add, Int.reduceToNat, Nat.reduceAdd, Nat.reduceDiv, Nat.reduceMod, Nat.reduceMul, Nat.reduceSub, Nat.reduceLeDiff, Nat.reduceLT, Nat.reduceEqDiff, ↓reduceIte, r_gr_wi, r_gl_wi, r_gk_wi, r_gn_wi, r_wi_eq, r_wi_ne, r_wi_nj, r_gi_wr, r_gl_wr, r_gk_wr, r_gn_wr, r_gr_wa, r_gl_wa, r_gk_wa, r_gn_wa, aa_e, as_e, al_e, u_lt, u_le, u_gt, u_ge, u_lt0, u_le0, u_gt0, u_ge0, Classical.not_not, not_true_eq_false, not_false_eq_true, oi_n, oi_m, n_dec, nI_add, pk_mul, n_sub, n_eq, n_le, n_lt, n_eq0, n_lt0, n_le0, n_0lt, n_0le, n_eqm, m_eqn, n_ltm, n_and, n_or, n_xor, n_shl, n_shr, tb1, tb0, bP_1, bP_0, bP_n0, ix_n, inb_n, u_eq, u_eqm, k21 (ci_L I), f21_0 (ci_L I), k22 (ci_L I), i1.1.1, Nat.add_sub_cancel]
  obtain ⟨H, eH⟩ : ∃ H, H = wi (wi h2 22 (s 107 18) (nI a)) 21 4 (nI (s 107 18 + 1)) := ⟨_, rfl⟩
  rw [← eH]
  have F0 : Fp (fun x => x = 21 ∨ x = 22 ∨ x = 33) h2 H := by
    rw [eH]
    exact ((Fp.refl (fun x => x = 21 ∨ x = 22 ∨ x = 33) h2).wi (Or.inr (Or.inl rfl)) _ _).wi (Or.inl rfl) _ _
  have g4 : gi H 21 4 = nI (s 107 18 + 1) := by rw [eH]; exact r_wi_eq _ _ _ _
  have g6 : gi H 21 6 = nI (thoN s) := by
    rw [eH]
    simp (disch := omega) only [r_wi_nj, r_wi_ne]
    exact i1.1.2.2
  have h22 : ∀ x, x < s 107 18 + 1 → gi H 22 x = nI (elderS s a 108 x) := by
    intro x hx
    rw [el_08, eH, r_wi_ne _ _ _ _ (by omega)]
    by_cases z : x = s 107 18
    · subst z
      rw [r_wi_eq, if_pos rfl]
    · rw [r_wi_nj _ _ _ z, if_neg z]
      exact i1.2.1 x (by omega)
  have ag : ∀ x, x < s 107 18 + 1 → elderS s a 108 x < 1000 := by
    intro x hx
    rw [el_08]
    by_cases z : x = s 107 18
    · rw [if_pos z]
      have := hC.2
      omega
    · rw [if_neg z]
      have := rs_age W (e := x) (by omega)
      omega
  have hcall := c_Ci_setSitting (d := d) (ag := elderS s a 108) (b := thoN s) (n := s 107 18 + 1) (is := True) (F0.lay (ci_L I)) g4 g6 (by omega) (by omega) (e := s 107 18) (by omega) (fun x hx => ⟨h22 x hx, ag x hx⟩)
  rw [bP_t trivial] at hcall
  refine ⟨_, _, _, hcall, ⟨by omega, by omega⟩, ?_⟩
  rintro r H1 ⟨rfl, F, g46, g5, gA⟩
  have F1 : Fp (fun x => x = 21 ∨ x = 22 ∨ x = 33) H H1 := F.mono (fun x q => by have q2 : x = 21 ∨ x = 33 := q; omega)
  have J := ci_elder W I hC (F0.trans F1) (fun x hx => by rw [F.at (by show ¬ (22 = 21 ∨ 22 = 33); omega)]; exact h22 x hx) (g46.1.trans g4) g46.2 g5 gA
  simp (maxSteps := 1000000) (disch := omega) only [slk, List.map_cons, List.map_nil, List.sum_cons, List.sum_nil, vc_i, vc_r, vc_n, vc_l, vc_o, Nat.add_zero, kO_e, kA_e, hdO_a, eq_self, blk, stp, lg, ls0, lk, ls1, ls2, kI_i, kL_l, kR_r, kR_n, kR_o, s1I_i, s2I_i, s1L_l, s2L_l, s1R_r, s1R_n, s1R_o, s1A_a, cmpc, popn, swt, rf_s, rf_n, cat_i, cat_r, cat_n, cat_l, true_and, and_true, List.length_cons, List.length_nil, Nat.zero_add, Int.reduceToNat, Nat.reduceAdd, Nat.reduceDiv, Nat.reduceMod, Nat.reduceMul, Nat.reduceSub, Nat.reduceLeDiff, Nat.reduceLT, Nat.reduceEqDiff, ↓reduceIte, r_gr_wi, r_gl_wi, r_gk_wi, r_gn_wi, r_wi_eq, r_wi_ne, r_wi_nj, r_gi_wr, r_gl_wr, r_gk_wr, r_gn_wr, r_gr_wa, r_gl_wa, r_gk_wa, r_gn_wa, aa_e, as_e, al_e, u_lt, u_le, u_gt, u_ge, u_lt0, u_le0, u_gt0, u_ge0, Classical.not_not, not_true_eq_false, not_false_eq_true, oi_n, oi_m, n_dec, nI_add, pk_mul, n_sub, n_eq, n_le, n_lt, n_eq0, n_lt0, n_le0, n_0lt, n_0le, n_eqm, m_eqn, n_ltm, n_and, n_or, n_xor, n_shl, n_shr, tb1, tb0, bP_1, bP_0, bP_n0, ix_n, inb_n, u_eq, u_eqm, k21 (ci_L I), f21_0 (ci_L I), k22 (ci_L I), g46.1.trans g4, Nat.add_sub_cancel, k21 (ci_L I), k21 (ci_L J)]
  rw [r_Ci_add]
  exact ⟨trivial, rfl, F0.trans F1, bm, J⟩
theorem c_T_elder (W : RH h s) {h2 : AH} (I : CI h2 s bm c) {a : Nat} (ha : a < 4294967296) : Mz (d + 4) 1 [.ref 20, .int (nI a)] h2 0 0 (PC2 (iff1 (elderC s a) (nI (s 107 18))) (ifS (elderC s a) (elderS s a) s) h2) := by
  have b1 := rs_e W
  have g := (ci_L I).2.2
  have m0 : min c 0 = 0 := by omega
  refine mz_in (l := [some (.ref 20), some (.int (nI a))]) mk_T_elder n_T_elder rfl l_T_elder rfl (Nat.le_of_ble_eq_true rfl) fun P hP => ?_
  have no : ¬ elderC s a → P 24 [some (.ref 20), some (.int (nI a))] [] h2 0 0 := by
    intro q
    refine hP.1 _ _ s_T_elder_24 _ _ _ _ _ ?_
    simp (maxSteps := 1000000) (disch := omega) only [g_T_elder_24, slk, List.map_cons, List.map_nil, List.sum_cons, List.sum_nil, vc_i, vc_r, vc_n, vc_l, vc_o, Nat.add_zero, kO_e, kA_e, hdO_a, eq_self, blk, stp, lg, ls0, lk, ls1, ls2, kI_i, kL_l, kR_r, kR_n, kR_o, s1I_i, s2I_i, s1L_l, s2L_l, s1R_r, s1R_n, s1R_o, s1A_a, cmpc, popn, swt, rf_s, rf_n, cat_i, cat_r, cat_n, cat_l, true_and, and_true, List.length_cons, List.length_nil, Nat.zero_add, Int.reduceToNat, Nat.reduceAdd, Nat.reduceDiv, Nat.reduceMod, Nat.reduceMul, Nat.reduceSub, Nat.reduceLeDiff, Nat.reduceLT, Nat.reduceEqDiff, ↓reduceIte, r_gr_wi, r_gl_wi, r_gk_wi, r_gn_wi, r_wi_eq, r_wi_ne, r_wi_nj, r_gi_wr, r_gl_wr, r_gk_wr, r_gn_wr, r_gr_wa, r_gl_wa, r_gk_wa, r_gn_wa, aa_e, as_e, al_e, u_lt, u_le, u_gt, u_ge, u_lt0, u_le0, u_gt0, u_ge0, Classical.not_not, not_true_eq_false, not_false_eq_true, oi_n, oi_m, n_dec, nI_add, pk_mul, n_sub, n_eq, n_le, n_lt, n_eq0, n_lt0, n_le0, n_0lt, n_0le, n_eqm, m_eqn, n_ltm, n_and, n_or, n_xor, n_shl, n_shr, tb1, tb0, bP_1, bP_0, bP_n0, ix_n, inb_n, u_eq, u_eqm]
    exact lzK r_T_elder q (FrC.refl _) I
  rcases Nat.lt_or_ge a 2147483648 with q | q
  · refine hP.1 _ _ s_T_elder_0 _ _ _ _ _ ?_
    simp (maxSteps := 1000000) (disch := omega) only [g_T_elder_0, slk, List.map_cons, List.map_nil, List.sum_cons, List.sum_nil, vc_i, vc_r, vc_n, vc_l, vc_o, Nat.add_zero, kO_e, kA_e, hdO_a, eq_self, blk, stp, lg, ls0, lk, ls1, ls2, kI_i, kL_l, kR_r, kR_n, kR_o, s1I_i, s2I_i, s1L_l, s2L_l, s1R_r, s1R_n, s1R_o, s1A_a, cmpc, popn, swt, rf_s, rf_n, cat_i, cat_r, cat_n, cat_l, true_and, and_true, List.length_cons, List.length_nil, Nat.zero_add, Int.reduceToNat, Nat.reduceAdd, Nat.reduceDiv, Nat.reduceMod, Nat.reduceMul, Nat.reduceSub, Nat.reduceLeDiff, Nat.reduceLT, Nat.reduceEqDiff, ↓reduceIte, r_gr_wi, r_gl_wi, r_gk_wi, r_gn_wi, r_wi_eq, r_wi_ne, r_wi_nj, r_gi_wr, r_gl_wr, r_gk_wr, r_gn_wr, r_gr_wa, r_gl_wa, r_gk_wa, r_gn_wa, aa_e, as_e, al_e, u_lt, u_le, u_gt, u_ge, u_lt0, u_le0, u_gt0, u_ge0, Classical.not_not, not_true_eq_false, not_false_eq_true, oi_n, oi_m, n_dec, nI_add, pk_mul, n_sub, n_eq, n_le, n_lt, n_eq0, n_lt0, n_le0, n_0lt, n_0le, n_eqm, m_eqn, n_ltm, n_and, n_or, n_xor, n_shl, n_shr, tb1, tb0, bP_1, bP_0, bP_n0, ix_n, inb_n, u_eq, u_eqm]
    refine ⟨fun z => no (fun y => by have := y.2; omega), fun z => ?_⟩
    refine hP.1 _ _ s_T_elder_6 _ _ _ _ _ ?_
    simp (maxSteps := 1000000) (disch := omega) only [g_T_elder_6, slk, List.map_cons, List.map_nil, List.sum_cons, List.sum_nil, vc_i, vc_r, vc_n, vc_l, vc_o, Nat.add_zero, kO_e, kA_e, hdO_a, eq_self, blk, stp, lg, ls0, lk, ls1, ls2, kI_i, kL_l, kR_r, kR_n, kR_o, s1I_i, s2I_i, s1L_l, s2L_l, s1R_r, s1R_n, s1R_o, s1A_a, cmpc, popn, swt, rf_s, rf_n, cat_i, cat_r, cat_n, cat_l, true_and, and_true, List.length_cons, List.length_nil, Nat.zero_add, Int.reduceToNat, Nat.reduceAdd, Nat.reduceDiv, Nat.reduceMod, Nat.reduceMul, Nat.reduceSub, Nat.reduceLeDiff, Nat.reduceLT, Nat.reduceEqDiff, ↓reduceIte, r_gr_wi, r_gl_wi, r_gk_wi, r_gn_wi, r_wi_eq, r_wi_ne, r_wi_nj, r_gi_wr, r_gl_wr, r_gk_wr, r_gn_wr, r_gr_wa, r_gl_wa, r_gk_wa, r_gn_wa, aa_e, as_e, al_e, u_lt, u_le, u_gt, u_ge, u_lt0, u_le0, u_gt0, u_ge0, Classical.not_not, not_true_eq_false, not_false_eq_true, oi_n, oi_m, n_dec, nI_add, pk_mul, n_sub, n_eq, n_le, n_lt, n_eq0, n_lt0, n_le0, n_0lt, n_0le, n_eqm, m_eqn, n_ltm, n_and, n_or, n_xor, n_shl, n_shr, tb1, tb0, bP_1, bP_0, bP_n0, ix_n, inb_n, u_eq, u_eqm]
    refine ⟨fun z2 => no (fun y => by have := y.2; omega), fun z2 => ?_⟩
    refine hP.1 _ _ s_T_elder_12 _ _ _ _ _ ?_
    simp (maxSteps := 1000000) (disch := omega) only [g_T_elder_12, slk, List.map_cons, List.map_nil, List.sum_cons, List.sum_nil, vc_i, vc_r, vc_n, vc_l, vc_o, Nat.add_zero, kO_e, kA_e, hdO_a, eq_self, blk, stp, lg, ls0, lk, ls1, ls2, kI_i, kL_l, kR_r, kR_n, kR_o, s1I_i, s2I_i, s1L_l, s2L_l, s1R_r, s1R_n, s1R_o, s1A_a, cmpc, popn, swt, rf_s, rf_n, cat_i, cat_r, cat_n, cat_l, true_and, and_true, List.length_cons, List.length_nil, Nat.zero_add, Int.reduceToNat, Nat.reduceAdd, Nat.reduceDiv, Nat.reduceMod, Nat.reduceMul, Nat.reduceSub, Nat.reduceLeDiff, Nat.reduceLT, Nat.reduceEqDiff, ↓reduceIte, r_gr_wi, r_gl_wi, r_gk_wi, r_gn_wi, r_wi_eq, r_wi_ne, r_wi_nj, r_gi_wr, r_gl_wr, r_gk_wr, r_gn_wr, r_gr_wa, r_gl_wa, r_gk_wa, r_gn_wa, aa_e, as_e, al_e, u_lt, u_le, u_gt, u_ge, u_lt0, u_le0, u_gt0, u_ge0, Classical.not_not, not_true_eq_false, not_false_eq_true, oi_n, oi_m, n_dec, nI_add, pk_mul, n_sub, n_eq, n_le, n_lt, n_eq0, n_lt0, n_le0, n_0lt, n_0le, n_eqm, m_eqn, n_ltm, n_and, n_or, n_xor, n_shl, n_shr, tb1, tb0, bP_1, bP_0, bP_n0, ix_n, inb_n, u_eq, u_eqm, k20 (ci_L I), f20_0 (ci_L I), k21 (ci_L I), (ci_C I).1.1]
    refine ⟨fun z3 => ?_, fun z3 => no (fun y => by have := y.1; omega)⟩
    have hC : elderC s a := ⟨by omega, by omega, by omega⟩
    have I1 := ci_uns W I (c2 := 0) (Nat.zero_le _)
    refine hP.1 _ _ s_T_elder_26 _ _ _ _ _ ?_
    simp (maxSteps := 1000000) (disch := omega) only [g_T_elder_26, slk, List.map_cons, List.map_nil, List.sum_cons, List.sum_nil, vc_i, vc_r, vc_n, vc_l, vc_o, Nat.add_zero, kO_e, kA_e, hdO_a, eq_self, blk, stp, lg, ls0, lk, ls1, ls2, kI_i, kL_l, kR_r, kR_n, kR_o, s1I_i, s2I_i, s1L_l, s2L_l, s1R_r, s1R_n, s1R_o, s1A_a, cmpc, popn, swt, rf_s, rf_n, cat_i, cat_r, cat_n, cat_l, true_and, and_true, List.length_cons, List.length_nil, Nat.zero_add, Int.reduceToNat, Nat.reduceAdd, Nat.reduceDiv, Nat.reduceMod, Nat.reduceMul, Nat.reduceSub, Nat.reduceLeDiff, Nat.reduceLT, Nat.reduceEqDiff, ↓reduceIte, r_gr_wi, r_gl_wi, r_gk_wi, r_gn_wi, r_wi_eq, r_wi_ne, r_wi_nj, r_gi_wr, r_gl_wr, r_gk_wr, r_gn_wr, r_gr_wa, r_gl_wa, r_gk_wa, r_gn_wa, aa_e, as_e, al_e, u_lt, u_le, u_gt, u_ge, u_lt0, u_le0, u_gt0, u_ge0, Classical.not_not, not_true_eq_false, not_false_eq_true, oi_n, oi_m, n_dec, nI_add, pk_mul, n_sub, n_eq, n_le, n_lt, n_eq0, n_lt0, n_le0, n_0lt, n_0le, n_eqm, m_eqn, n_ltm, n_and, n_or, n_xor, n_shl, n_shr, tb1, tb0, bP_1, bP_0, bP_n0, ix_n, inb_n, u_eq, u_eqm, k20 (ci_L I), f20_0 (ci_L I), k21 (ci_L I), m0]
    refine wcv (c_T_unsettleFrom W I (m := 0) (by omega)) ⟨by omega, by omega⟩ ?_
    simp (maxSteps := 1000000) (disch := omega) only [slk, List.map_cons, List.map_nil, List.sum_cons, List.sum_nil, vc_i, vc_r, vc_n, vc_l, vc_o, Nat.add_zero, kO_e, kA_e, hdO_a, eq_self, blk, stp, lg, ls0, lk, ls1, ls2, kI_i, kL_l, kR_r, kR_n, kR_o, s1I_i, s2I_i, s1L_l, s2L_l, s1R_r, s1R_n, s1R_o, s1A_a, cmpc, popn, swt, rf_s, rf_n, cat_i, cat_r, cat_n, cat_l, true_and, and_true, List.length_cons, List.length_nil, Nat.zero_add, Int.reduceToNat, Nat.reduceAdd, Nat.reduceDiv, Nat.reduceMod, Nat.reduceMul, Nat.reduceSub, Nat.reduceLeDiff, Nat.reduceLT, Nat.reduceEqDiff, ↓reduceIte, r_gr_wi, r_gl_wi, r_gk_wi, r_gn_wi, r_wi_eq, r_wi_ne, r_wi_nj, r_gi_wr, r_gl_wr, r_gk_wr, r_gn_wr, r_gr_wa, r_gl_wa, r_gk_wa, r_gn_wa, aa_e, as_e, al_e, u_lt, u_le, u_gt, u_ge, u_lt0, u_le0, u_gt0, u_ge0, Classical.not_not, not_true_eq_false, not_false_eq_true, oi_n, oi_m, n_dec, nI_add, pk_mul, n_sub, n_eq, n_le, n_lt, n_eq0, n_lt0, n_le0, n_0lt, n_0le, n_eqm, m_eqn, n_ltm, n_and, n_or, n_xor, n_shl, n_shr, tb1, tb0, bP_1, bP_0, bP_n0, ix_n, inb_n, u_eq, u_eqm, k20 (ci_L I), f20_0 (ci_L I), k21 (ci_L I), m0]
    refine ⟨_, _, _, c_Ci_add W I1 hC, ⟨by omega, by omega⟩, ?_⟩
    rintro r H ⟨rfl, F, bm2, J⟩
    simp (maxSteps := 1000000) (disch := omega) only [slk, List.map_cons, List.map_nil, List.sum_cons, List.sum_nil, vc_i, vc_r, vc_n, vc_l, vc_o, Nat.add_zero, kO_e, kA_e, hdO_a, eq_self, blk, stp, lg, ls0, lk, ls1, ls2, kI_i, kL_l, kR_r, kR_n, kR_o, s1I_i, s2I_i, s1L_l, s2L_l, s1R_r, s1R_n, s1R_o, s1A_a, cmpc, popn, swt, rf_s, rf_n, cat_i, cat_r, cat_n, cat_l, true_and, and_true, List.length_cons, List.length_nil, Nat.zero_add, Int.reduceToNat, Nat.reduceAdd, Nat.reduceDiv, Nat.reduceMod, Nat.reduceMul, Nat.reduceSub, Nat.reduceLeDiff, Nat.reduceLT, Nat.reduceEqDiff, ↓reduceIte, r_gr_wi, r_gl_wi, r_gk_wi, r_gn_wi, r_wi_eq, r_wi_ne, r_wi_nj, r_gi_wr, r_gl_wr, r_gk_wr, r_gn_wr, r_gr_wa, r_gl_wa, r_gk_wa, r_gn_wa, aa_e, as_e, al_e, u_lt, u_le, u_gt, u_ge, u_lt0, u_le0, u_gt0, u_ge0, Classical.not_not, not_true_eq_false, not_false_eq_true, oi_n, oi_m, n_dec, nI_add, pk_mul, n_sub, n_eq, n_le, n_lt, n_eq0, n_lt0, n_le0, n_0lt, n_0le, n_eqm, m_eqn, n_ltm, n_and, n_or, n_xor, n_shl, n_shr, tb1, tb0, bP_1, bP_0, bP_n0, ix_n, inb_n, u_eq, u_eqm, k20 (ci_L I), f20_0 (ci_L I), k21 (ci_L I), m0]
    exact lzJ r_T_elder hC rfl ((frc_uns g _).trans (frc_fp F g (fun a q => by have q2 : a = 21 ∨ a = 22 ∨ a = 33 := q; unfold clR; omega))) J
  · refine hP.1 _ _ s_T_elder_0 _ _ _ _ _ ?_
    simp (maxSteps := 1000000) (disch := omega) only [g_T_elder_0, slk, List.map_cons, List.map_nil, List.sum_cons, List.sum_nil, vc_i, vc_r, vc_n, vc_l, vc_o, Nat.add_zero, kO_e, kA_e, hdO_a, eq_self, blk, stp, lg, ls0, lk, ls1, ls2, kI_i, kL_l, kR_r, kR_n, kR_o, s1I_i, s2I_i, s1L_l, s2L_l, s1R_r, s1R_n, s1R_o, s1A_a, cmpc, popn, swt, rf_s, rf_n, cat_i, cat_r, cat_n, cat_l, true_and, and_true, List.length_cons, List.length_nil, Nat.zero_add, Int.reduceToNat, Nat.reduceAdd, Nat.reduceDiv, Nat.reduceMod, Nat.reduceMul, Nat.reduceSub, Nat.reduceLeDiff, Nat.reduceLT, Nat.reduceEqDiff, ↓reduceIte, r_gr_wi, r_gl_wi, r_gk_wi, r_gn_wi, r_wi_eq, r_wi_ne, r_wi_nj, r_gi_wr, r_gl_wr, r_gk_wr, r_gn_wr, r_gr_wa, r_gl_wa, r_gk_wa, r_gn_wa, aa_e, as_e, al_e, u_lt, u_le, u_gt, u_ge, u_lt0, u_le0, u_gt0, u_ge0, Classical.not_not, not_true_eq_false, not_false_eq_true, oi_n, oi_m, n_dec, nI_add, pk_mul, n_sub, n_eq, n_le, n_lt, n_eq0, n_lt0, n_le0, n_0lt, n_0le, n_eqm, m_eqn, n_ltm, n_and, n_or, n_xor, n_shl, n_shr, tb1, tb0, bP_1, bP_0, bP_n0, ix_n, inb_n, u_eq, u_eqm]
    exact ⟨fun _ => no (fun y => by have := y.2; omega), fun z => (by first | exact z.elim | cases z | exact absurd rfl z | exact absurd trivial z | exact absurd id z | (exfalso; omega))⟩
end
