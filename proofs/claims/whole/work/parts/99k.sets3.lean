/-! ===== the class's setters: holds, cares, grounds ===== -/
section
variable {h : AH} {s : St} {d c : Nat} {bm : Nat → Nat}
theorem ci_uns (W : RH h s) {h2 : AH} (I : CI h2 s bm c) {c2 : Nat} (hc : c2 ≤ c) : CI (wi h2 20 17 (nI c2)) s bm c2 := by
  have g := (ci_L I).2.2
  have b0 := rs_m W
  obtain ⟨H, eH⟩ : ∃ H, H = wi h2 20 17 (nI c2) := ⟨_, rfl⟩
  rw [← eH]
  have FB : Fg (fun a => a = 20) noY h2 H := by
    rw [eH]
    exact ((Fp.refl (fun a => a = 20) h2).wi rfl _ _).fg
  obtain ⟨t1, t2, t3, t4, t5, t6⟩ := ci_ct I
  have e20 : ∀ k, k ≠ 17 → gi H 20 k = gi h2 20 k := fun k q => by
    rw [eH]
    simp (disch := omega) only [r_wi_nj]
  have e0 : gi H 20 17 = nI c2 := by
    rw [eH]
    exact r_wi_eq _ _ _ _
  refine ⟨FB.lay (ci_L I) (fun a j y => by first | exact y.elim | (unfold isT; omega)), Fg.cc (s := s) FB g (ci_C I) (fun a q => by omega) (fun j y => (by first | exact y.elim | omega)) (fun j _ y => (by first | exact y.elim | omega)) (fun e he => rs_md W he), ⟨(e20 13 (by omega)).trans t1, (e20 14 (by omega)).trans t2, (e20 15 (by omega)).trans t3, (e20 16 (by omega)).trans t4, e0, by omega⟩, Fg.mt (s := s) FB g (ci_m I) (fun m hm => rs_law W hm) (fun m hm a q => by have := ci_b I hm; omega) (fun m hm a j y => by first | exact y.elim | (have := ci_b I hm; omega)) (fun j _ y => (by first | exact y.elim | omega)) (fun j _ y => (by first | exact y.elim | omega)), (show BO s bm from ci_bo I), Fg.txa (s := s) FB g (ci_tx I) (fun t ht a q => by have := isTx_b (ci_tx I) ht; omega) (fun t ht j y => by first | exact y.elim | (have := isTx_b (ci_tx I) ht; omega)) (fun j _ y => (by first | exact y.elim | omega)) (fun j _ y => (by first | exact y.elim | omega)), Fg.dj (s := s) FB g (ci_dj I) (fun j _ y => (by first | exact y.elim | omega)) (fun j _ y => (by first | exact y.elim | omega)), Fg.tpc (s := s) FB g (ci_tp I) ⟨fun q => by omega, fun q => by omega⟩, Fg.plc (s := s) FB g (ci_pl I) (fun a q => by omega), Fg.gfc (s := s) FB g (ci_gf I) (by rw [FB.2.2.1 61 (by omega) (fun q => by omega)]) (fun a q => by omega), Fg.asc (s := s) FB g (ci_as I) (fun a q => by omega), Fg.twc (s := s) FB g (ci_tw I) (fun a ha q => by have := ta_b ha; unfold isT at ha; omega), FB.std g (by omega) (fun j hj => ci_st I j (by omega)) (fun j hj a q => by have e : tOf j = 75 + 8 * j := rfl; omega) (fun j hj y => y.elim), ci_pu I⟩
theorem frc_uns {h2 : AH} (g : 164 < gn h2) (v : Int32) : FrC h2 (wi h2 20 17 v) := frc_fp ((Fp.refl (fun a => a = 20) h2).wi rfl _ _) g (fun a q => by have q2 : a = 20 := q; unfold clR; omega)
/-! holds -/
noncomputable def shN (p : Prop) (a i : Nat) : Nat := nif p (a ||| 1 <<< i) (adN a (1 <<< i))
theorem sh_bit {p : Prop} {a i j : Nat} : (shN p a i).testBit j = true ↔ if j = i then p else a.testBit j = true := by
  unfold shN
  by_cases q : p
  · rw [nif_t q, Nat.testBit_or, Bool.or_eq_true, bit_one]
    by_cases e : j = i
    · rw [if_pos e]
      exact ⟨fun _ => q, fun _ => Or.inr e.symm⟩
    · rw [if_neg e]
      exact ⟨fun z => z.resolve_right (fun y => e y.symm), Or.inl⟩
  · rw [nif_f q, adN_bit, Bool.and_eq_true, Bool.not_eq_true', ← Bool.not_eq_true, bit_one]
    by_cases e : j = i
    · rw [if_pos e]
      exact ⟨fun z => absurd e.symm z.2, fun z => absurd z q⟩
    · rw [if_neg e]
      exact ⟨fun z => z.1, fun z => ⟨z, fun y => e y.symm⟩⟩
theorem c_Ma_setHold {h2 : AH} {b P : Nat} (M : MA h2 b P) {e i v a0 a2 : Nat} (h0 : gi h2 (b + 1) e = nI a0) (ha2 : gi h2 (b + 2) e = nI a2) (l0 : a0 < 2 ^ 20) (l2 : a2 < 2 ^ 20) (he : e < 8) (hi : i < 20) (hv : v ≤ 2) : Mz (d + 1) 181 [.ref b, .int (nI e), .int (nI i), .int (nI v)] h2 0 0 (Rv (wi (wi h2 (b + 1) e (nI (shN (v = 0) a0 i))) (b + 2) e (nI (shN (v = 2) a2 i)))) := by
  have bb := ma_b M
  have b20 : ∀ k, 20 ≤ b + k := fun k => by omega
  refine mz_in (l := [some (.ref b), some (.int (nI e)), some (.int (nI i)), some (.int (nI v)), none]) mk_Ma_setHold n_Ma_setHold rfl l_Ma_setHold rfl (Nat.le_of_ble_eq_true rfl) fun P hP => ?_
  have j71 : ∀ H y, y = shN (v = 2) a2 i → H = wi h2 (b + 1) e (nI (shN (v = 0) a0 i)) → P 71 [some (.ref b), some (.int (nI e)), some (.int (nI i)), some (.int (nI v)), some (.int (nI (1 <<< i)))] [.int (nI y), .int (nI e), .ref (b + 2)] H 0 0 := by
    intro H y ey eH
    subst eH
    refine hP.1 _ _ s_Ma_setHold_71 _ _ _ _ _ ?_
    simp (maxSteps := 1000000) (disch := omega) only [g_Ma_setHold_71, slk, List.map_cons, List.map_nil, List.sum_cons, List.sum_nil, vc_i, vc_r, vc_n, vc_l, vc_o, Nat.add_zero, kO_e, kA_e, hdO_a, eq_self, blk, stp, lg, ls0, lk, ls1, ls2, kI_i, kL_l, kR_r, kR_n, kR_o, s1I_i, s2I_i, s1L_l, s2L_l, s1R_r, s1R_n, s1R_o, s1A_a, cmpc, popn, swt, rf_s, rf_n, cat_i, cat_r, cat_n, cat_l, true_and, and_true, List.length_cons, List.length_nil, Nat.zero_add, Int.reduceToNat, Nat.reduceAdd, Nat.reduceDiv, Nat.reduceMod, Nat.reduceMul, Nat.reduceSub, Nat.reduceLeDiff, Nat.reduceLT, Nat.reduceEqDiff, ↓reduceIte, r_gr_wi, r_gl_wi, r_gk_wi, r_gn_wi, r_wi_eq, r_wi_ne, r_wi_nj, r_gi_wr, r_gl_wr, r_gk_wr, r_gn_wr, r_gr_wa, r_gl_wa, r_gk_wa, r_gn_wa, aa_e, as_e, al_e, u_lt, u_le, u_gt, u_ge, u_lt0, u_le0, u_gt0, u_ge0, Classical.not_not, not_true_eq_false, not_false_eq_true, oi_n, oi_m, n_dec, nI_add, pk_mul, n_sub, n_eq, n_le, n_lt, n_eq0, n_lt0, n_le0, n_0lt, n_0le, n_eqm, m_eqn, n_ltm, n_and, n_or, n_xor, n_shl, n_shr, tb1, tb0, bP_1, bP_0, bP_n0, ix_n, inb_n, u_eq, u_eqm, ma_k M, ma_k1 M, ma_k2 M, ma_k3 M, ma_k12 M, ma_k13 M, ma_k14 M, ma_r2 M, ma_r3 M, ma_r4 M, ma_r5 M, ma_r6 M, ma_r7 M, h0, ha2, b20, n_andn]
    rw [ey]
    exact lfV r_Ma_setHold rfl
  have j37 : ∀ y, y = shN (v = 0) a0 i → P 37 [some (.ref b), some (.int (nI e)), some (.int (nI i)), some (.int (nI v)), some (.int (nI (1 <<< i)))] [.int (nI y), .int (nI e), .ref (b + 1)] h2 0 0 := by
    intro y ey
    refine hP.1 _ _ s_Ma_setHold_37 _ _ _ _ _ ?_
    simp (maxSteps := 1000000) (disch := omega) only [g_Ma_setHold_37, slk, List.map_cons, List.map_nil, List.sum_cons, List.sum_nil, vc_i, vc_r, vc_n, vc_l, vc_o, Nat.add_zero, kO_e, kA_e, hdO_a, eq_self, blk, stp, lg, ls0, lk, ls1, ls2, kI_i, kL_l, kR_r, kR_n, kR_o, s1I_i, s2I_i, s1L_l, s2L_l, s1R_r, s1R_n, s1R_o, s1A_a, cmpc, popn, swt, rf_s, rf_n, cat_i, cat_r, cat_n, cat_l, true_and, and_true, List.length_cons, List.length_nil, Nat.zero_add, Int.reduceToNat, Nat.reduceAdd, Nat.reduceDiv, Nat.reduceMod, Nat.reduceMul, Nat.reduceSub, Nat.reduceLeDiff, Nat.reduceLT, Nat.reduceEqDiff, ↓reduceIte, r_gr_wi, r_gl_wi, r_gk_wi, r_gn_wi, r_wi_eq, r_wi_ne, r_wi_nj, r_gi_wr, r_gl_wr, r_gk_wr, r_gn_wr, r_gr_wa, r_gl_wa, r_gk_wa, r_gn_wa, aa_e, as_e, al_e, u_lt, u_le, u_gt, u_ge, u_lt0, u_le0, u_gt0, u_ge0, Classical.not_not, not_true_eq_false, not_false_eq_true, oi_n, oi_m, n_dec, nI_add, pk_mul, n_sub, n_eq, n_le, n_lt, n_eq0, n_lt0, n_le0, n_0lt, n_0le, n_eqm, m_eqn, n_ltm, n_and, n_or, n_xor, n_shl, n_shr, tb1, tb0, bP_1, bP_0, bP_n0, ix_n, inb_n, u_eq, u_eqm, ma_k M, ma_k1 M, ma_k2 M, ma_k3 M, ma_k12 M, ma_k13 M, ma_k14 M, ma_r2 M, ma_r3 M, ma_r4 M, ma_r5 M, ma_r6 M, ma_r7 M, h0, ha2, b20, n_andn]
    refine ⟨fun q => ?_, fun q => ?_⟩
    · refine hP.1 _ _ s_Ma_setHold_60 _ _ _ _ _ ?_
      simp (maxSteps := 1000000) (disch := omega) only [g_Ma_setHold_60, slk, List.map_cons, List.map_nil, List.sum_cons, List.sum_nil, vc_i, vc_r, vc_n, vc_l, vc_o, Nat.add_zero, kO_e, kA_e, hdO_a, eq_self, blk, stp, lg, ls0, lk, ls1, ls2, kI_i, kL_l, kR_r, kR_n, kR_o, s1I_i, s2I_i, s1L_l, s2L_l, s1R_r, s1R_n, s1R_o, s1A_a, cmpc, popn, swt, rf_s, rf_n, cat_i, cat_r, cat_n, cat_l, true_and, and_true, List.length_cons, List.length_nil, Nat.zero_add, Int.reduceToNat, Nat.reduceAdd, Nat.reduceDiv, Nat.reduceMod, Nat.reduceMul, Nat.reduceSub, Nat.reduceLeDiff, Nat.reduceLT, Nat.reduceEqDiff, ↓reduceIte, r_gr_wi, r_gl_wi, r_gk_wi, r_gn_wi, r_wi_eq, r_wi_ne, r_wi_nj, r_gi_wr, r_gl_wr, r_gk_wr, r_gn_wr, r_gr_wa, r_gl_wa, r_gk_wa, r_gn_wa, aa_e, as_e, al_e, u_lt, u_le, u_gt, u_ge, u_lt0, u_le0, u_gt0, u_ge0, Classical.not_not, not_true_eq_false, not_false_eq_true, oi_n, oi_m, n_dec, nI_add, pk_mul, n_sub, n_eq, n_le, n_lt, n_eq0, n_lt0, n_le0, n_0lt, n_0le, n_eqm, m_eqn, n_ltm, n_and, n_or, n_xor, n_shl, n_shr, tb1, tb0, bP_1, bP_0, bP_n0, ix_n, inb_n, u_eq, u_eqm, ma_k M, ma_k1 M, ma_k2 M, ma_k3 M, ma_k12 M, ma_k13 M, ma_k14 M, ma_r2 M, ma_r3 M, ma_r4 M, ma_r5 M, ma_r6 M, ma_r7 M, h0, ha2, b20, n_andn]
      exact j71 _ _ (nif_f (by omega)).symm (by rw [ey])
    · refine hP.1 _ _ s_Ma_setHold_48 _ _ _ _ _ ?_
      simp (maxSteps := 1000000) (disch := omega) only [g_Ma_setHold_48, slk, List.map_cons, List.map_nil, List.sum_cons, List.sum_nil, vc_i, vc_r, vc_n, vc_l, vc_o, Nat.add_zero, kO_e, kA_e, hdO_a, eq_self, blk, stp, lg, ls0, lk, ls1, ls2, kI_i, kL_l, kR_r, kR_n, kR_o, s1I_i, s2I_i, s1L_l, s2L_l, s1R_r, s1R_n, s1R_o, s1A_a, cmpc, popn, swt, rf_s, rf_n, cat_i, cat_r, cat_n, cat_l, true_and, and_true, List.length_cons, List.length_nil, Nat.zero_add, Int.reduceToNat, Nat.reduceAdd, Nat.reduceDiv, Nat.reduceMod, Nat.reduceMul, Nat.reduceSub, Nat.reduceLeDiff, Nat.reduceLT, Nat.reduceEqDiff, ↓reduceIte, r_gr_wi, r_gl_wi, r_gk_wi, r_gn_wi, r_wi_eq, r_wi_ne, r_wi_nj, r_gi_wr, r_gl_wr, r_gk_wr, r_gn_wr, r_gr_wa, r_gl_wa, r_gk_wa, r_gn_wa, aa_e, as_e, al_e, u_lt, u_le, u_gt, u_ge, u_lt0, u_le0, u_gt0, u_ge0, Classical.not_not, not_true_eq_false, not_false_eq_true, oi_n, oi_m, n_dec, nI_add, pk_mul, n_sub, n_eq, n_le, n_lt, n_eq0, n_lt0, n_le0, n_0lt, n_0le, n_eqm, m_eqn, n_ltm, n_and, n_or, n_xor, n_shl, n_shr, tb1, tb0, bP_1, bP_0, bP_n0, ix_n, inb_n, u_eq, u_eqm, ma_k M, ma_k1 M, ma_k2 M, ma_k3 M, ma_k12 M, ma_k13 M, ma_k14 M, ma_r2 M, ma_r3 M, ma_r4 M, ma_r5 M, ma_r6 M, ma_r7 M, h0, ha2, b20, n_andn]
      exact j71 _ _ (nif_t (by omega)).symm (by rw [ey])
  refine hP.1 _ _ s_Ma_setHold_0 _ _ _ _ _ ?_
  simp (maxSteps := 1000000) (disch := omega) only [g_Ma_setHold_0, slk, List.map_cons, List.map_nil, List.sum_cons, List.sum_nil, vc_i, vc_r, vc_n, vc_l, vc_o, Nat.add_zero, kO_e, kA_e, hdO_a, eq_self, blk, stp, lg, ls0, lk, ls1, ls2, kI_i, kL_l, kR_r, kR_n, kR_o, s1I_i, s2I_i, s1L_l, s2L_l, s1R_r, s1R_n, s1R_o, s1A_a, cmpc, popn, swt, rf_s, rf_n, cat_i, cat_r, cat_n, cat_l, true_and, and_true, List.length_cons, List.length_nil, Nat.zero_add, Int.reduceToNat, Nat.reduceAdd, Nat.reduceDiv, Nat.reduceMod, Nat.reduceMul, Nat.reduceSub, Nat.reduceLeDiff, Nat.reduceLT, Nat.reduceEqDiff, ↓reduceIte, r_gr_wi, r_gl_wi, r_gk_wi, r_gn_wi, r_wi_eq, r_wi_ne, r_wi_nj, r_gi_wr, r_gl_wr, r_gk_wr, r_gn_wr, r_gr_wa, r_gl_wa, r_gk_wa, r_gn_wa, aa_e, as_e, al_e, u_lt, u_le, u_gt, u_ge, u_lt0, u_le0, u_gt0, u_ge0, Classical.not_not, not_true_eq_false, not_false_eq_true, oi_n, oi_m, n_dec, nI_add, pk_mul, n_sub, n_eq, n_le, n_lt, n_eq0, n_lt0, n_le0, n_0lt, n_0le, n_eqm, m_eqn, n_ltm, n_and, n_or, n_xor, n_shl, n_shr, tb1, tb0, bP_1, bP_0, bP_n0, ix_n, inb_n, u_eq, u_eqm, ma_k M, ma_k1 M, ma_k2 M, ma_k3 M, ma_k12 M, ma_k13 M, ma_k14 M, ma_r2 M, ma_r3 M, ma_r4 M, ma_r5 M, ma_r6 M, ma_r7 M, h0, ha2, b20, n_andn]
  refine ⟨fun q => ?_, fun q => ?_⟩
  · refine hP.1 _ _ s_Ma_setHold_26 _ _ _ _ _ ?_
    simp (maxSteps := 1000000) (disch := omega) only [g_Ma_setHold_26, slk, List.map_cons, List.map_nil, List.sum_cons, List.sum_nil, vc_i, vc_r, vc_n, vc_l, vc_o, Nat.add_zero, kO_e, kA_e, hdO_a, eq_self, blk, stp, lg, ls0, lk, ls1, ls2, kI_i, kL_l, kR_r, kR_n, kR_o, s1I_i, s2I_i, s1L_l, s2L_l, s1R_r, s1R_n, s1R_o, s1A_a, cmpc, popn, swt, rf_s, rf_n, cat_i, cat_r, cat_n, cat_l, true_and, and_true, List.length_cons, List.length_nil, Nat.zero_add, Int.reduceToNat, Nat.reduceAdd, Nat.reduceDiv, Nat.reduceMod, Nat.reduceMul, Nat.reduceSub, Nat.reduceLeDiff, Nat.reduceLT, Nat.reduceEqDiff, ↓reduceIte, r_gr_wi, r_gl_wi, r_gk_wi, r_gn_wi, r_wi_eq, r_wi_ne, r_wi_nj, r_gi_wr, r_gl_wr, r_gk_wr, r_gn_wr, r_gr_wa, r_gl_wa, r_gk_wa, r_gn_wa, aa_e, as_e, al_e, u_lt, u_le, u_gt, u_ge, u_lt0, u_le0, u_gt0, u_ge0, Classical.not_not, not_true_eq_false, not_false_eq_true, oi_n, oi_m, n_dec, nI_add, pk_mul, n_sub, n_eq, n_le, n_lt, n_eq0, n_lt0, n_le0, n_0lt, n_0le, n_eqm, m_eqn, n_ltm, n_and, n_or, n_xor, n_shl, n_shr, tb1, tb0, bP_1, bP_0, bP_n0, ix_n, inb_n, u_eq, u_eqm, ma_k M, ma_k1 M, ma_k2 M, ma_k3 M, ma_k12 M, ma_k13 M, ma_k14 M, ma_r2 M, ma_r3 M, ma_r4 M, ma_r5 M, ma_r6 M, ma_r7 M, h0, ha2, b20, n_andn]
    exact j37 _ (nif_f (by omega)).symm
  · refine hP.1 _ _ s_Ma_setHold_14 _ _ _ _ _ ?_
    simp (maxSteps := 1000000) (disch := omega) only [g_Ma_setHold_14, slk, List.map_cons, List.map_nil, List.sum_cons, List.sum_nil, vc_i, vc_r, vc_n, vc_l, vc_o, Nat.add_zero, kO_e, kA_e, hdO_a, eq_self, blk, stp, lg, ls0, lk, ls1, ls2, kI_i, kL_l, kR_r, kR_n, kR_o, s1I_i, s2I_i, s1L_l, s2L_l, s1R_r, s1R_n, s1R_o, s1A_a, cmpc, popn, swt, rf_s, rf_n, cat_i, cat_r, cat_n, cat_l, true_and, and_true, List.length_cons, List.length_nil, Nat.zero_add, Int.reduceToNat, Nat.reduceAdd, Nat.reduceDiv, Nat.reduceMod, Nat.reduceMul, Nat.reduceSub, Nat.reduceLeDiff, Nat.reduceLT, Nat.reduceEqDiff, ↓reduceIte, r_gr_wi, r_gl_wi, r_gk_wi, r_gn_wi, r_wi_eq, r_wi_ne, r_wi_nj, r_gi_wr, r_gl_wr, r_gk_wr, r_gn_wr, r_gr_wa, r_gl_wa, r_gk_wa, r_gn_wa, aa_e, as_e, al_e, u_lt, u_le, u_gt, u_ge, u_lt0, u_le0, u_gt0, u_ge0, Classical.not_not, not_true_eq_false, not_false_eq_true, oi_n, oi_m, n_dec, nI_add, pk_mul, n_sub, n_eq, n_le, n_lt, n_eq0, n_lt0, n_le0, n_0lt, n_0le, n_eqm, m_eqn, n_ltm, n_and, n_or, n_xor, n_shl, n_shr, tb1, tb0, bP_1, bP_0, bP_n0, ix_n, inb_n, u_eq, u_eqm, ma_k M, ma_k1 M, ma_k2 M, ma_k3 M, ma_k12 M, ma_k13 M, ma_k14 M, ma_r2 M, ma_r3 M, ma_r4 M, ma_r5 M, ma_r6 M, ma_r7 M, h0, ha2, b20, n_andn]
    exact j37 _ (nif_t (by omega)).symm
theorem uS_o {s : St} {a k v b j : Nat} (h : ¬ (b = a ∧ j = k)) : uS s a k v b j = s b j := by
  unfold uS
  by_cases q : b = a
  · rw [if_pos q, if_neg (fun z => h ⟨q, z⟩)]
  · rw [if_neg q]
theorem uS_k {s : St} {a k v : Nat} : uS s a k v a k = v := by
  unfold uS
  rw [if_pos rfl, if_pos rfl]
theorem ho_o {s : St} {e m p w v e2 m2 i : Nat} (hm : m < 4) (hp : p < 5) (hw : w < 4) (hm2 : m2 < 4) (hi : i < 20) (h : ¬ (e2 = e ∧ m2 = m ∧ i = 4 * p + w)) : holdS s e m p w v 114 (20 * (4 * e2 + m2) + i) = s 114 (20 * (4 * e2 + m2) + i) := uS_o (fun z => h (by omega))
theorem ho_k {s : St} {e m p w v : Nat} : holdS s e m p w v 114 (20 * (4 * e + m) + (4 * p + w)) = v := by
  unfold holdS
  rw [idx_eq]
  exact uS_k
theorem cn_hold {s : St} {e m p w v u : Nat} (he : e < s 107 18) (hm : m < 4) (hp : p < 5) (hw : w < 4) : cnN (holdS s e m p w v) m u e = shN (v = u) (cnN s m u e) (4 * p + w) := by
  refine Nat.eq_of_testBit_eq fun i => Bool.eq_iff_iff.mpr ?_
  rw [cn_bit, sh_bit]
  show i < 20 ∧ e < s 107 18 ∧ _ ↔ _
  by_cases q : i = 4 * p + w
  · subst q
    rw [if_pos rfl, ho_k]
    exact ⟨fun z => z.2.2, fun z => ⟨by omega, he, z⟩⟩
  · rw [if_neg q, cn_bit]
    by_cases i20 : i < 20
    · rw [ho_o hm hp hw hm i20 (fun z => q z.2.2)]
    · exact ⟨fun z => absurd z.1 i20, fun z => absurd z.1 i20⟩
theorem cn_holdo {s : St} {e m p w v u e2 m2 : Nat} (hm : m < 4) (hp : p < 5) (hw : w < 4) (hm2 : m2 < 4) (h : ¬ (e2 = e ∧ m2 = m)) : cnN (holdS s e m p w v) m2 u e2 = cnN s m2 u e2 := by
  refine Nat.eq_of_testBit_eq fun i => Bool.eq_iff_iff.mpr ?_
  rw [cn_bit, cn_bit]
  show i < 20 ∧ e2 < s 107 18 ∧ _ ↔ _
  by_cases i20 : i < 20
  · rw [ho_o hm hp hw hm2 i20 (fun z => h ⟨z.1, z.2.1⟩)]
  · exact ⟨fun z => absurd z.1 i20, fun z => absurd z.1 i20⟩
def hoH (h : AH) (b e : Nat) (x y : Nat) : AH := wi (wi h (b + 1) e (nI x)) (b + 2) e (nI y)
theorem mv_hold (W : RH h s) {h2 : AH} {b e m p w v : Nat} (V : MV h2 s m b) (hC : holdC s e m p w v) : MV (hoH h2 b e (shN (v = 0) (cnN s m 0 e) (4 * p + w)) (shN (v = 2) (cnN s m 2 e) (4 * p + w))) (holdS s e m p w v) m b := by
  have b0 := rs_m W
  have b1 := rs_e W
  obtain ⟨q1, ⟨q2, q3, q4⟩, q5⟩ := hC
  have b4 := rs_p W q2
  obtain ⟨v1, v2, v3, v4, v5⟩ := V
  unfold hoH
  refine ⟨?_, ?_, fun e2 he2 => ?_, ?_, ?_⟩
  · simp (disch := omega) only [r_wi_ne]
    exact v1
  · intro x hx
    simp (disch := omega) only [r_wi_ne]
    exact v2 x hx
  · by_cases z : e2 = e
    · subst z
      rw [cn_hold q1 (by omega) (by omega) (by omega), cn_hold q1 (by omega) (by omega) (by omega)]
      refine ⟨?_, r_wi_eq _ _ _ _⟩
      rw [r_wi_ne _ _ _ _ (by omega), r_wi_eq]
    · rw [cn_holdo (by omega) (by omega) (by omega) (by omega) (fun y => z y.1), cn_holdo (by omega) (by omega) (by omega) (by omega) (fun y => z y.1)]
      refine ⟨?_, ?_⟩
      · rw [r_wi_ne _ _ _ _ (by omega), r_wi_nj _ _ _ z]
        exact (v3 e2 he2).1
      · rw [r_wi_nj _ _ _ z, r_wi_ne _ _ _ _ (by omega)]
        exact (v3 e2 he2).2
  · intro e2 p2 he2 hp2
    simp (disch := omega) only [r_wi_ne]
    exact v4 e2 p2 he2 hp2
  · intro i hi
    simp (disch := omega) only [r_wi_ne]
    exact v5 i hi
theorem mv_holdo {h2 : AH} {b e m p w v m2 : Nat} (V : MV h2 s m2 b) (hm : m < 4) (hp : p < 5) (hw : w < 4) (hm2 : m2 < 4) (ne : m2 ≠ m) : MV h2 (holdS s e m p w v) m2 b := by
  obtain ⟨v1, v2, v3, v4, v5⟩ := V
  refine ⟨v1, v2, fun e2 he2 => ?_, v4, v5⟩
  rw [cn_holdo hm hp hw hm2 (fun y => ne y.2), cn_holdo hm hp hw hm2 (fun y => ne y.2)]
  exact v3 e2 he2
theorem ag_hold (W : RH h s) {e m p w v i : Nat} (hm : m < 4) (hp : p < 5) (hw : w < 4) (hi : i < s 107 19) (ne : i ≠ m) : Ag s (holdS s e m p w v) i := by
  have b0 := rs_m W
  have r := rs_p W hi
  have key : ∀ e2 p2 w2, p2 < 5 → w2 < 4 → holdS s e m p w v 114 (((4 * e2 + i) * 5 + p2) * 4 + w2) = s 114 (((4 * e2 + i) * 5 + p2) * 4 + w2) := fun e2 p2 w2 z1 z2 => uS_o (fun z => by omega)
  have pl : ∀ e2 p2 x, p2 < 5 → (plP (holdS s e m p w v) e2 i p2 x ↔ plP s e2 i p2 x) := by
    intro e2 p2 x z
    have k := key e2 p2 (wyN (s 112 i) x p2) z (wyN_lt _ _ _)
    have k2 : holdS s e m p w v 114 (((4 * e2 + i) * 5 + p2) * 4 + wyN (holdS s e m p w v 112 i) x p2) = s 114 (((4 * e2 + i) * 5 + p2) * 4 + wyN (s 112 i) x p2) := k
    unfold plP
    rw [k2]
    exact Iff.rfl
  have ab : ∀ x, abP (holdS s e m p w v) i x ↔ abP s i x := by
    intro x
    have br : ∀ e2, brP (holdS s e m p w v) e2 i x (evN s i) ↔ brP s e2 i x (evN s i) := by
      intro e2
      refine and_congr ⟨fun z p2 hp2 hs => ?_, fun z p2 hp2 hs => ?_⟩ Iff.rfl
      · have := z p2 hp2 hs
        unfold cbP at this ⊢
        rw [show holdS s e m p w v 114 (((4 * e2 + i) * 5 + p2) * 4 + wyN (holdS s e m p w v 112 i) x p2) = s 114 (((4 * e2 + i) * 5 + p2) * 4 + wyN (s 112 i) x p2) from key e2 p2 _ (by have : p2 < s 112 i := hp2; omega) (wyN_lt _ _ _)] at this
        exact this
      · have := z p2 hp2 hs
        unfold cbP at this ⊢
        rw [show holdS s e m p w v 114 (((4 * e2 + i) * 5 + p2) * 4 + wyN (holdS s e m p w v 112 i) x p2) = s 114 (((4 * e2 + i) * 5 + p2) * 4 + wyN (s 112 i) x p2) from key e2 p2 _ (by have : p2 < s 112 i := hp2; omega) (wyN_lt _ _ _)]
        exact this
    exact ⟨fun z j hj => (br _).mp (z j hj), fun z j hj => (br _).mpr (z j hj)⟩
  exact ⟨⟨rfl, fun _ => rfl⟩, ⟨rfl, rfl, rfl⟩, fun _ _ => rfl, fun _ _ _ _ => rfl, fun _ _ => rfl, fun e2 p2 w2 _ z1 z2 => key e2 p2 w2 z1 z2, fun e2 p2 x _ z => pl e2 p2 x z, ab, fun ed rs e => trI_c _ (fun k hk => ⟨rfl, rfl, fun _ => Iff.rfl⟩)⟩
theorem ci_hold (W : RH h s) {h2 : AH} (I : CI h2 s bm c) {e m p w v : Nat} (hC : holdC s e m p w v) (hc : c ≤ m) : CI (hoH h2 (bm m) e (shN (v = 0) (cnN s m 0 e) (4 * p + w)) (shN (v = 2) (cnN s m 2 e) (4 * p + w))) (holdS s e m p w v) bm c := by
  have b0 := rs_m W
  have b1 := rs_e W
  have g := (ci_L I).2.2
  have hm := hC.2.1.1
  have b4 := rs_p W hm
  have bb := ci_b I hm
  have mvh := mv_hold W (ci_m I m hm).2.2.1 hC
  obtain ⟨q1, ⟨q2, q3, q4⟩, q5⟩ := hC
  obtain ⟨H, eH⟩ : ∃ H, H = hoH h2 (bm m) e (shN (v = 0) (cnN s m 0 e) (4 * p + w)) (shN (v = 2) (cnN s m 2 e) (4 * p + w)) := ⟨_, rfl⟩
  rw [← eH] at mvh ⊢
  have FP : Fp (fun a => a = bm m + 1 ∨ a = bm m + 2) h2 H := by
    rw [eH]
    exact ((Fp.refl (fun a => a = bm m + 1 ∨ a = bm m + 2) h2).wi (Or.inl rfl) _ _).wi (Or.inr rfl) _ _
  have FB := FP.fg
  have pu := ci_pu I
  refine ⟨FB.lay (ci_L I) (fun a j y => by first | exact y.elim | (unfold isT; omega)), Fg.cc (s := s) FB g (ci_C I) (fun a q => by omega) (fun j y => (by first | exact y.elim | omega)) (fun j _ y => (by first | exact y.elim | omega)) (fun e he => rs_md W he), Fg.ct (s := s) FB g (ci_ct I) (fun q => by omega), ?_, (show BO s bm from ci_bo I), Fg.txa (s := s) FB g (ci_tx I) (fun t ht a q => by have := isTx_b (ci_tx I) ht; have := ci_dj I t ht m hm; omega) (fun t ht j y => by first | exact y.elim | (have := isTx_b (ci_tx I) ht; have := ci_dj I t ht m hm; omega)) (fun j _ y => (by first | exact y.elim | omega)) (fun j _ y => (by first | exact y.elim | omega)), Fg.dj (s := s) FB g (ci_dj I) (fun j _ y => (by first | exact y.elim | omega)) (fun j _ y => (by first | exact y.elim | omega)), Fg.tpc (s := s) FB g (ci_tp I) ⟨fun q => by omega, fun q => by omega⟩, Fg.plc (s := s) FB g (ci_pl I) (fun a q => by omega), Fg.gfc (s := s) FB g (ci_gf I) (by rw [FB.2.2.1 61 (by omega) (fun q => by omega)]) (fun a q => by omega), Fg.asc (s := s) FB g (ci_as I) (fun a q => by omega), Fg.twc (s := s) FB g (ci_tw I) (fun a ha q => by have := ta_b ha; unfold isT at ha; omega), std_ag W FB g (ci_ct I).2.2.2.2.2 (ci_st I) rfl (fun i hi => ag_hold W (by omega) (by omega) (by omega) (by omega) (by omega)) (fun j hj => rfl) (fun j hj a q => by have e : tOf j = 75 + 8 * j := rfl; omega) (fun j hj y => y.elim), ⟨⟨fun e2 m2 p2 w2 z1 z2 z3 z4 z5 => ?_, pu.1.2.1, pu.1.2.2⟩, pu.2⟩⟩
  · intro m2 hm2
    have hm2' : m2 < s 107 19 := hm2
    obtain ⟨m1, mA, mV, mR⟩ := ci_m I m2 hm2'
    have b2 := ci_b I hm2'
    refine ⟨by rw [FP.gr]; exact m1, FP.ma mA, ?_, ?_⟩
    · by_cases z : m2 = m
      · subst z
        exact mvh
      · refine mv_holdo (FP.mv mV (fun a q => ?_)) (by omega) (by omega) (by omega) (by omega) z
        have q2 : a = bm m + 1 ∨ a = bm m + 2 := q
        rcases Nat.lt_or_ge m2 m with y | y
        · have := ci_bo I m2 m y hm
          omega
        · have := ci_bo I m m2 (by omega) hm2'
          omega
    · show gr H (bm m2) 10 = lwR H s m2
      unfold lwR
      rw [FP.gr]
      exact mR
  · have z5' : ¬ (m2 < s 107 19 ∧ p2 < s 112 m2 ∧ w2 < s 113 m2) := z5
    rw [ho_o (by omega) (by omega) (by omega) z2 (by omega) (fun y => z5' (by
      obtain ⟨y1, y2, y3⟩ := y
      subst y2
      have e1 : p2 = p := by omega
      have e2 : w2 = w := by omega
      subst e1
      subst e2
      exact ⟨q2, q3, q4⟩))]
    exact pu.1.1 e2 m2 p2 w2 z1 z2 z3 z4 z5'
theorem c_T_hold (W : RH h s) {h2 : AH} (I : CI h2 s bm c) {e m p w v : Nat} (he : e < 4294967296) (hm : m < 4294967296) (hp : p < 4294967296) (hw : w < 4294967296) (hv : v < 4294967296) : Mz (d + 2) 6 [.ref 20, .int (nI e), .int (nI m), .int (nI p), .int (nI w), .int (nI v)] h2 0 0 (PC2 (bP (holdC s e m p w v)) (ifS (holdC s e m p w v) (holdS s e m p w v) s) h2) := by
  have b0 := rs_m W
  have b1 := rs_e W
  refine mz_in (l := [some (.ref 20), some (.int (nI e)), some (.int (nI m)), some (.int (nI p)), some (.int (nI w)), some (.int (nI v)), none]) mk_T_hold n_T_hold rfl l_T_hold rfl (Nat.le_of_ble_eq_true rfl) fun P hP => ?_
  have no : ¬ holdC s e m p w v → ∀ x, P 45 [some (.ref 20), some (.int (nI e)), some (.int (nI m)), some (.int (nI p)), some (.int (nI w)), some (.int (nI v)), x] [] h2 0 0 := by
    intro q x
    refine hP.1 _ _ s_T_hold_45 _ _ _ _ _ ?_
    simp (maxSteps := 1000000) (disch := omega) only [g_T_hold_45, slk, List.map_cons, List.map_nil, List.sum_cons, List.sum_nil, vc_i, vc_r, vc_n, vc_l, vc_o, Nat.add_zero, kO_e, kA_e, hdO_a, eq_self, blk, stp, lg, ls0, lk, ls1, ls2, kI_i, kL_l, kR_r, kR_n, kR_o, s1I_i, s2I_i, s1L_l, s2L_l, s1R_r, s1R_n, s1R_o, s1A_a, cmpc, popn, swt, rf_s, rf_n, cat_i, cat_r, cat_n, cat_l, true_and, and_true, List.length_cons, List.length_nil, Nat.zero_add, Int.reduceToNat, Nat.reduceAdd, Nat.reduceDiv, Nat.reduceMod, Nat.reduceMul, Nat.reduceSub, Nat.reduceLeDiff, Nat.reduceLT, Nat.reduceEqDiff, ↓reduceIte, r_gr_wi, r_gl_wi, r_gk_wi, r_gn_wi, r_wi_eq, r_wi_ne, r_wi_nj, r_gi_wr, r_gl_wr, r_gk_wr, r_gn_wr, r_gr_wa, r_gl_wa, r_gk_wa, r_gn_wa, aa_e, as_e, al_e, u_lt, u_le, u_gt, u_ge, u_lt0, u_le0, u_gt0, u_ge0, Classical.not_not, not_true_eq_false, not_false_eq_true, oi_n, oi_m, n_dec, nI_add, pk_mul, n_sub, n_eq, n_le, n_lt, n_eq0, n_lt0, n_le0, n_0lt, n_0le, n_eqm, m_eqn, n_ltm, n_and, n_or, n_xor, n_shl, n_shr, tb1, tb0, bP_1, bP_0, bP_n0, ix_n, inb_n, u_eq, u_eqm]
    exact lzF r_T_hold q (FrC.refl _) I
  by_cases hm1 : m < s 107 19
  · have b4 := rs_p W hm1
    have bb := ci_b I hm1
    have mm := ci_m I m hm1
    have M := mm.2.1
    refine hP.1 _ _ s_T_hold_0 _ _ _ _ _ ?_
    simp (maxSteps := 1000000) (disch := omega) only [g_T_hold_0, slk, List.map_cons, List.map_nil, List.sum_cons, List.sum_nil, vc_i, vc_r, vc_n, vc_l, vc_o, Nat.add_zero, kO_e, kA_e, hdO_a, eq_self, blk, stp, lg, ls0, lk, ls1, ls2, kI_i, kL_l, kR_r, kR_n, kR_o, s1I_i, s2I_i, s1L_l, s2L_l, s1R_r, s1R_n, s1R_o, s1A_a, cmpc, popn, swt, rf_s, rf_n, cat_i, cat_r, cat_n, cat_l, true_and, and_true, List.length_cons, List.length_nil, Nat.zero_add, Int.reduceToNat, Nat.reduceAdd, Nat.reduceDiv, Nat.reduceMod, Nat.reduceMul, Nat.reduceSub, Nat.reduceLeDiff, Nat.reduceLT, Nat.reduceEqDiff, ↓reduceIte, r_gr_wi, r_gl_wi, r_gk_wi, r_gn_wi, r_wi_eq, r_wi_ne, r_wi_nj, r_gi_wr, r_gl_wr, r_gk_wr, r_gn_wr, r_gr_wa, r_gl_wa, r_gk_wa, r_gn_wa, aa_e, as_e, al_e, u_lt, u_le, u_gt, u_ge, u_lt0, u_le0, u_gt0, u_ge0, Classical.not_not, not_true_eq_false, not_false_eq_true, oi_n, oi_m, n_dec, nI_add, pk_mul, n_sub, n_eq, n_le, n_lt, n_eq0, n_lt0, n_le0, n_0lt, n_0le, n_eqm, m_eqn, n_ltm, n_and, n_or, n_xor, n_shl, n_shr, tb1, tb0, bP_1, bP_0, bP_n0, ix_n, inb_n, u_eq, u_eqm, k20 (ci_L I), ma_k M]
    refine wcf (c_T_matterAt W I hm1) ⟨by omega, by omega⟩ ?_
    simp (maxSteps := 1000000) (disch := omega) only [slk, List.map_cons, List.map_nil, List.sum_cons, List.sum_nil, vc_i, vc_r, vc_n, vc_l, vc_o, Nat.add_zero, kO_e, kA_e, hdO_a, eq_self, blk, stp, lg, ls0, lk, ls1, ls2, kI_i, kL_l, kR_r, kR_n, kR_o, s1I_i, s2I_i, s1L_l, s2L_l, s1R_r, s1R_n, s1R_o, s1A_a, cmpc, popn, swt, rf_s, rf_n, cat_i, cat_r, cat_n, cat_l, true_and, and_true, List.length_cons, List.length_nil, Nat.zero_add, Int.reduceToNat, Nat.reduceAdd, Nat.reduceDiv, Nat.reduceMod, Nat.reduceMul, Nat.reduceSub, Nat.reduceLeDiff, Nat.reduceLT, Nat.reduceEqDiff, ↓reduceIte, r_gr_wi, r_gl_wi, r_gk_wi, r_gn_wi, r_wi_eq, r_wi_ne, r_wi_nj, r_gi_wr, r_gl_wr, r_gk_wr, r_gn_wr, r_gr_wa, r_gl_wa, r_gk_wa, r_gn_wa, aa_e, as_e, al_e, u_lt, u_le, u_gt, u_ge, u_lt0, u_le0, u_gt0, u_ge0, Classical.not_not, not_true_eq_false, not_false_eq_true, oi_n, oi_m, n_dec, nI_add, pk_mul, n_sub, n_eq, n_le, n_lt, n_eq0, n_lt0, n_le0, n_0lt, n_0le, n_eqm, m_eqn, n_ltm, n_and, n_or, n_xor, n_shl, n_shr, tb1, tb0, bP_1, bP_0, bP_n0, ix_n, inb_n, u_eq, u_eqm, k20 (ci_L I), ma_k M]
    refine ⟨fun z => (by first | exact z.elim | cases z | exact absurd rfl z | exact absurd trivial z | exact absurd id z | (exfalso; omega)), fun _ => ?_⟩
    refine hP.1 _ _ s_T_hold_12 _ _ _ _ _ ?_
    simp (maxSteps := 1000000) (disch := omega) only [g_T_hold_12, slk, List.map_cons, List.map_nil, List.sum_cons, List.sum_nil, vc_i, vc_r, vc_n, vc_l, vc_o, Nat.add_zero, kO_e, kA_e, hdO_a, eq_self, blk, stp, lg, ls0, lk, ls1, ls2, kI_i, kL_l, kR_r, kR_n, kR_o, s1I_i, s2I_i, s1L_l, s2L_l, s1R_r, s1R_n, s1R_o, s1A_a, cmpc, popn, swt, rf_s, rf_n, cat_i, cat_r, cat_n, cat_l, true_and, and_true, List.length_cons, List.length_nil, Nat.zero_add, Int.reduceToNat, Nat.reduceAdd, Nat.reduceDiv, Nat.reduceMod, Nat.reduceMul, Nat.reduceSub, Nat.reduceLeDiff, Nat.reduceLT, Nat.reduceEqDiff, ↓reduceIte, r_gr_wi, r_gl_wi, r_gk_wi, r_gn_wi, r_wi_eq, r_wi_ne, r_wi_nj, r_gi_wr, r_gl_wr, r_gk_wr, r_gn_wr, r_gr_wa, r_gl_wa, r_gk_wa, r_gn_wa, aa_e, as_e, al_e, u_lt, u_le, u_gt, u_ge, u_lt0, u_le0, u_gt0, u_ge0, Classical.not_not, not_true_eq_false, not_false_eq_true, oi_n, oi_m, n_dec, nI_add, pk_mul, n_sub, n_eq, n_le, n_lt, n_eq0, n_lt0, n_le0, n_0lt, n_0le, n_eqm, m_eqn, n_ltm, n_and, n_or, n_xor, n_shl, n_shr, tb1, tb0, bP_1, bP_0, bP_n0, ix_n, inb_n, u_eq, u_eqm, k20 (ci_L I), f20_0 (ci_L I), k21 (ci_L I), ma_k M]
    refine wc (c_Ci_has (ci_L I) (ci_C I).1.1 b1 he) ⟨by omega, by omega⟩ ?_
    simp (maxSteps := 1000000) (disch := omega) only [slk, List.map_cons, List.map_nil, List.sum_cons, List.sum_nil, vc_i, vc_r, vc_n, vc_l, vc_o, Nat.add_zero, kO_e, kA_e, hdO_a, eq_self, blk, stp, lg, ls0, lk, ls1, ls2, kI_i, kL_l, kR_r, kR_n, kR_o, s1I_i, s2I_i, s1L_l, s2L_l, s1R_r, s1R_n, s1R_o, s1A_a, cmpc, popn, swt, rf_s, rf_n, cat_i, cat_r, cat_n, cat_l, true_and, and_true, List.length_cons, List.length_nil, Nat.zero_add, Int.reduceToNat, Nat.reduceAdd, Nat.reduceDiv, Nat.reduceMod, Nat.reduceMul, Nat.reduceSub, Nat.reduceLeDiff, Nat.reduceLT, Nat.reduceEqDiff, ↓reduceIte, r_gr_wi, r_gl_wi, r_gk_wi, r_gn_wi, r_wi_eq, r_wi_ne, r_wi_nj, r_gi_wr, r_gl_wr, r_gk_wr, r_gn_wr, r_gr_wa, r_gl_wa, r_gk_wa, r_gn_wa, aa_e, as_e, al_e, u_lt, u_le, u_gt, u_ge, u_lt0, u_le0, u_gt0, u_ge0, Classical.not_not, not_true_eq_false, not_false_eq_true, oi_n, oi_m, n_dec, nI_add, pk_mul, n_sub, n_eq, n_le, n_lt, n_eq0, n_lt0, n_le0, n_0lt, n_0le, n_eqm, m_eqn, n_ltm, n_and, n_or, n_xor, n_shl, n_shr, tb1, tb0, bP_1, bP_0, bP_n0, ix_n, inb_n, u_eq, u_eqm, k20 (ci_L I), f20_0 (ci_L I), k21 (ci_L I), ma_k M]
    refine ⟨fun z => no (fun y => z y.1) _, fun z => ?_⟩
    have he1 : e < s 107 18 := by first | exact z | exact Classical.not_not.mp z | (simpa using z)
    refine hP.1 _ _ s_T_hold_23 _ _ _ _ _ ?_
    simp (maxSteps := 1000000) (disch := omega) only [g_T_hold_23, slk, List.map_cons, List.map_nil, List.sum_cons, List.sum_nil, vc_i, vc_r, vc_n, vc_l, vc_o, Nat.add_zero, kO_e, kA_e, hdO_a, eq_self, blk, stp, lg, ls0, lk, ls1, ls2, kI_i, kL_l, kR_r, kR_n, kR_o, s1I_i, s2I_i, s1L_l, s2L_l, s1R_r, s1R_n, s1R_o, s1A_a, cmpc, popn, swt, rf_s, rf_n, cat_i, cat_r, cat_n, cat_l, true_and, and_true, List.length_cons, List.length_nil, Nat.zero_add, Int.reduceToNat, Nat.reduceAdd, Nat.reduceDiv, Nat.reduceMod, Nat.reduceMul, Nat.reduceSub, Nat.reduceLeDiff, Nat.reduceLT, Nat.reduceEqDiff, ↓reduceIte, r_gr_wi, r_gl_wi, r_gk_wi, r_gn_wi, r_wi_eq, r_wi_ne, r_wi_nj, r_gi_wr, r_gl_wr, r_gk_wr, r_gn_wr, r_gr_wa, r_gl_wa, r_gk_wa, r_gn_wa, aa_e, as_e, al_e, u_lt, u_le, u_gt, u_ge, u_lt0, u_le0, u_gt0, u_ge0, Classical.not_not, not_true_eq_false, not_false_eq_true, oi_n, oi_m, n_dec, nI_add, pk_mul, n_sub, n_eq, n_le, n_lt, n_eq0, n_lt0, n_le0, n_0lt, n_0le, n_eqm, m_eqn, n_ltm, n_and, n_or, n_xor, n_shl, n_shr, tb1, tb0, bP_1, bP_0, bP_n0, ix_n, inb_n, u_eq, u_eqm, ma_k M]
    refine wc (c_Ma_hasWay W M mm.2.2.1 hm1 hp hw) ⟨by omega, by omega⟩ ?_
    simp (maxSteps := 1000000) (disch := omega) only [slk, List.map_cons, List.map_nil, List.sum_cons, List.sum_nil, vc_i, vc_r, vc_n, vc_l, vc_o, Nat.add_zero, kO_e, kA_e, hdO_a, eq_self, blk, stp, lg, ls0, lk, ls1, ls2, kI_i, kL_l, kR_r, kR_n, kR_o, s1I_i, s2I_i, s1L_l, s2L_l, s1R_r, s1R_n, s1R_o, s1A_a, cmpc, popn, swt, rf_s, rf_n, cat_i, cat_r, cat_n, cat_l, true_and, and_true, List.length_cons, List.length_nil, Nat.zero_add, Int.reduceToNat, Nat.reduceAdd, Nat.reduceDiv, Nat.reduceMod, Nat.reduceMul, Nat.reduceSub, Nat.reduceLeDiff, Nat.reduceLT, Nat.reduceEqDiff, ↓reduceIte, r_gr_wi, r_gl_wi, r_gk_wi, r_gn_wi, r_wi_eq, r_wi_ne, r_wi_nj, r_gi_wr, r_gl_wr, r_gk_wr, r_gn_wr, r_gr_wa, r_gl_wa, r_gk_wa, r_gn_wa, aa_e, as_e, al_e, u_lt, u_le, u_gt, u_ge, u_lt0, u_le0, u_gt0, u_ge0, Classical.not_not, not_true_eq_false, not_false_eq_true, oi_n, oi_m, n_dec, nI_add, pk_mul, n_sub, n_eq, n_le, n_lt, n_eq0, n_lt0, n_le0, n_0lt, n_0le, n_eqm, m_eqn, n_ltm, n_and, n_or, n_xor, n_shl, n_shr, tb1, tb0, bP_1, bP_0, bP_n0, ix_n, inb_n, u_eq, u_eqm, ma_k M]
    refine ⟨fun z => no (fun y => z y.2.1.2) _, fun z => ?_⟩
    have pw : p < s 112 m ∧ w < s 113 m := by first | exact z | exact Classical.not_not.mp z | (simpa using z)
    rcases Nat.lt_or_ge v 2147483648 with v1 | v1
    · refine hP.1 _ _ s_T_hold_34 _ _ _ _ _ ?_
      simp (maxSteps := 1000000) (disch := omega) only [g_T_hold_34, slk, List.map_cons, List.map_nil, List.sum_cons, List.sum_nil, vc_i, vc_r, vc_n, vc_l, vc_o, Nat.add_zero, kO_e, kA_e, hdO_a, eq_self, blk, stp, lg, ls0, lk, ls1, ls2, kI_i, kL_l, kR_r, kR_n, kR_o, s1I_i, s2I_i, s1L_l, s2L_l, s1R_r, s1R_n, s1R_o, s1A_a, cmpc, popn, swt, rf_s, rf_n, cat_i, cat_r, cat_n, cat_l, true_and, and_true, List.length_cons, List.length_nil, Nat.zero_add, Int.reduceToNat, Nat.reduceAdd, Nat.reduceDiv, Nat.reduceMod, Nat.reduceMul, Nat.reduceSub, Nat.reduceLeDiff, Nat.reduceLT, Nat.reduceEqDiff, ↓reduceIte, r_gr_wi, r_gl_wi, r_gk_wi, r_gn_wi, r_wi_eq, r_wi_ne, r_wi_nj, r_gi_wr, r_gl_wr, r_gk_wr, r_gn_wr, r_gr_wa, r_gl_wa, r_gk_wa, r_gn_wa, aa_e, as_e, al_e, u_lt, u_le, u_gt, u_ge, u_lt0, u_le0, u_gt0, u_ge0, Classical.not_not, not_true_eq_false, not_false_eq_true, oi_n, oi_m, n_dec, nI_add, pk_mul, n_sub, n_eq, n_le, n_lt, n_eq0, n_lt0, n_le0, n_0lt, n_0le, n_eqm, m_eqn, n_ltm, n_and, n_or, n_xor, n_shl, n_shr, tb1, tb0, bP_1, bP_0, bP_n0, ix_n, inb_n, u_eq, u_eqm, ma_k M]
      refine ⟨fun z => (by first | exact z.elim | cases z | exact absurd rfl z | exact absurd trivial z | exact absurd id z | (exfalso; omega)), fun _ => ?_⟩
      refine hP.1 _ _ s_T_hold_39 _ _ _ _ _ ?_
      simp (maxSteps := 1000000) (disch := omega) only [g_T_hold_39, slk, List.map_cons, List.map_nil, List.sum_cons, List.sum_nil, vc_i, vc_r, vc_n, vc_l, vc_o, Nat.add_zero, kO_e, kA_e, hdO_a, eq_self, blk, stp, lg, ls0, lk, ls1, ls2, kI_i, kL_l, kR_r, kR_n, kR_o, s1I_i, s2I_i, s1L_l, s2L_l, s1R_r, s1R_n, s1R_o, s1A_a, cmpc, popn, swt, rf_s, rf_n, cat_i, cat_r, cat_n, cat_l, true_and, and_true, List.length_cons, List.length_nil, Nat.zero_add, Int.reduceToNat, Nat.reduceAdd, Nat.reduceDiv, Nat.reduceMod, Nat.reduceMul, Nat.reduceSub, Nat.reduceLeDiff, Nat.reduceLT, Nat.reduceEqDiff, ↓reduceIte, r_gr_wi, r_gl_wi, r_gk_wi, r_gn_wi, r_wi_eq, r_wi_ne, r_wi_nj, r_gi_wr, r_gl_wr, r_gk_wr, r_gn_wr, r_gr_wa, r_gl_wa, r_gk_wa, r_gn_wa, aa_e, as_e, al_e, u_lt, u_le, u_gt, u_ge, u_lt0, u_le0, u_gt0, u_ge0, Classical.not_not, not_true_eq_false, not_false_eq_true, oi_n, oi_m, n_dec, nI_add, pk_mul, n_sub, n_eq, n_le, n_lt, n_eq0, n_lt0, n_le0, n_0lt, n_0le, n_eqm, m_eqn, n_ltm, n_and, n_or, n_xor, n_shl, n_shr, tb1, tb0, bP_1, bP_0, bP_n0, ix_n, inb_n, u_eq, u_eqm, ma_k M]
      refine ⟨fun z => ?_, fun z => no (fun y => by have := y.2.2; omega) _⟩
      have hC : holdC s e m p w v := ⟨he1, ⟨hm1, pw⟩, by omega⟩
      have g := (ci_L I).2.2
      have I1 := ci_uns W I (c2 := min c m) (Nat.min_le_left _ _)
      have m1 := ci_m I1 m hm1
      have vc := m1.2.2.1.2.2.1 e (by omega)
      refine hP.1 _ _ s_T_hold_47 _ _ _ _ _ ?_
      simp (maxSteps := 1000000) (disch := omega) only [g_T_hold_47, slk, List.map_cons, List.map_nil, List.sum_cons, List.sum_nil, vc_i, vc_r, vc_n, vc_l, vc_o, Nat.add_zero, kO_e, kA_e, hdO_a, eq_self, blk, stp, lg, ls0, lk, ls1, ls2, kI_i, kL_l, kR_r, kR_n, kR_o, s1I_i, s2I_i, s1L_l, s2L_l, s1R_r, s1R_n, s1R_o, s1A_a, cmpc, popn, swt, rf_s, rf_n, cat_i, cat_r, cat_n, cat_l, true_and, and_true, List.length_cons, List.length_nil, Nat.zero_add, Int.reduceToNat, Nat.reduceAdd, Nat.reduceDiv, Nat.reduceMod, Nat.reduceMul, Nat.reduceSub, Nat.reduceLeDiff, Nat.reduceLT, Nat.reduceEqDiff, ↓reduceIte, r_gr_wi, r_gl_wi, r_gk_wi, r_gn_wi, r_wi_eq, r_wi_ne, r_wi_nj, r_gi_wr, r_gl_wr, r_gk_wr, r_gn_wr, r_gr_wa, r_gl_wa, r_gk_wa, r_gn_wa, aa_e, as_e, al_e, u_lt, u_le, u_gt, u_ge, u_lt0, u_le0, u_gt0, u_ge0, Classical.not_not, not_true_eq_false, not_false_eq_true, oi_n, oi_m, n_dec, nI_add, pk_mul, n_sub, n_eq, n_le, n_lt, n_eq0, n_lt0, n_le0, n_0lt, n_0le, n_eqm, m_eqn, n_ltm, n_and, n_or, n_xor, n_shl, n_shr, tb1, tb0, bP_1, bP_0, bP_n0, ix_n, inb_n, u_eq, u_eqm, k20 (ci_L I), ma_k M]
      refine wcv (c_T_unsettleFrom W I (m := m) (by omega)) ⟨by omega, by omega⟩ ?_
      simp (maxSteps := 1000000) (disch := omega) only [slk, List.map_cons, List.map_nil, List.sum_cons, List.sum_nil, vc_i, vc_r, vc_n, vc_l, vc_o, Nat.add_zero, kO_e, kA_e, hdO_a, eq_self, blk, stp, lg, ls0, lk, ls1, ls2, kI_i, kL_l, kR_r, kR_n, kR_o, s1I_i, s2I_i, s1L_l, s2L_l, s1R_r, s1R_n, s1R_o, s1A_a, cmpc, popn, swt, rf_s, rf_n, cat_i, cat_r, cat_n, cat_l, true_and, and_true, List.length_cons, List.length_nil, Nat.zero_add, Int.reduceToNat, Nat.reduceAdd, Nat.reduceDiv, Nat.reduceMod, Nat.reduceMul, Nat.reduceSub, Nat.reduceLeDiff, Nat.reduceLT, Nat.reduceEqDiff, ↓reduceIte, r_gr_wi, r_gl_wi, r_gk_wi, r_gn_wi, r_wi_eq, r_wi_ne, r_wi_nj, r_gi_wr, r_gl_wr, r_gk_wr, r_gn_wr, r_gr_wa, r_gl_wa, r_gk_wa, r_gn_wa, aa_e, as_e, al_e, u_lt, u_le, u_gt, u_ge, u_lt0, u_le0, u_gt0, u_ge0, Classical.not_not, not_true_eq_false, not_false_eq_true, oi_n, oi_m, n_dec, nI_add, pk_mul, n_sub, n_eq, n_le, n_lt, n_eq0, n_lt0, n_le0, n_0lt, n_0le, n_eqm, m_eqn, n_ltm, n_and, n_or, n_xor, n_shl, n_shr, tb1, tb0, bP_1, bP_0, bP_n0, ix_n, inb_n, u_eq, u_eqm, k20 (ci_L I), ma_k M]
      refine wc (c_T_slot) ⟨by omega, by omega⟩ ?_
      simp (maxSteps := 1000000) (disch := omega) only [slk, List.map_cons, List.map_nil, List.sum_cons, List.sum_nil, vc_i, vc_r, vc_n, vc_l, vc_o, Nat.add_zero, kO_e, kA_e, hdO_a, eq_self, blk, stp, lg, ls0, lk, ls1, ls2, kI_i, kL_l, kR_r, kR_n, kR_o, s1I_i, s2I_i, s1L_l, s2L_l, s1R_r, s1R_n, s1R_o, s1A_a, cmpc, popn, swt, rf_s, rf_n, cat_i, cat_r, cat_n, cat_l, true_and, and_true, List.length_cons, List.length_nil, Nat.zero_add, Int.reduceToNat, Nat.reduceAdd, Nat.reduceDiv, Nat.reduceMod, Nat.reduceMul, Nat.reduceSub, Nat.reduceLeDiff, Nat.reduceLT, Nat.reduceEqDiff, ↓reduceIte, r_gr_wi, r_gl_wi, r_gk_wi, r_gn_wi, r_wi_eq, r_wi_ne, r_wi_nj, r_gi_wr, r_gl_wr, r_gk_wr, r_gn_wr, r_gr_wa, r_gl_wa, r_gk_wa, r_gn_wa, aa_e, as_e, al_e, u_lt, u_le, u_gt, u_ge, u_lt0, u_le0, u_gt0, u_ge0, Classical.not_not, not_true_eq_false, not_false_eq_true, oi_n, oi_m, n_dec, nI_add, pk_mul, n_sub, n_eq, n_le, n_lt, n_eq0, n_lt0, n_le0, n_0lt, n_0le, n_eqm, m_eqn, n_ltm, n_and, n_or, n_xor, n_shl, n_shr, tb1, tb0, bP_1, bP_0, bP_n0, ix_n, inb_n, u_eq, u_eqm, k20 (ci_L I), ma_k M]
      refine wcv (c_Ma_setHold m1.2.1 vc.1 vc.2 (cn_lt s m 0 e) (cn_lt s m 2 e) (by omega) (i := 4 * p + w) (by omega) (by omega)) ⟨by omega, by omega⟩ ?_
      simp (maxSteps := 1000000) (disch := omega) only [slk, List.map_cons, List.map_nil, List.sum_cons, List.sum_nil, vc_i, vc_r, vc_n, vc_l, vc_o, Nat.add_zero, kO_e, kA_e, hdO_a, eq_self, blk, stp, lg, ls0, lk, ls1, ls2, kI_i, kL_l, kR_r, kR_n, kR_o, s1I_i, s2I_i, s1L_l, s2L_l, s1R_r, s1R_n, s1R_o, s1A_a, cmpc, popn, swt, rf_s, rf_n, cat_i, cat_r, cat_n, cat_l, true_and, and_true, List.length_cons, List.length_nil, Nat.zero_add, Int.reduceToNat, Nat.reduceAdd, Nat.reduceDiv, Nat.reduceMod, Nat.reduceMul, Nat.reduceSub, Nat.reduceLeDiff, Nat.reduceLT, Nat.reduceEqDiff, ↓reduceIte, r_gr_wi, r_gl_wi, r_gk_wi, r_gn_wi, r_wi_eq, r_wi_ne, r_wi_nj, r_gi_wr, r_gl_wr, r_gk_wr, r_gn_wr, r_gr_wa, r_gl_wa, r_gk_wa, r_gn_wa, aa_e, as_e, al_e, u_lt, u_le, u_gt, u_ge, u_lt0, u_le0, u_gt0, u_ge0, Classical.not_not, not_true_eq_false, not_false_eq_true, oi_n, oi_m, n_dec, nI_add, pk_mul, n_sub, n_eq, n_le, n_lt, n_eq0, n_lt0, n_le0, n_0lt, n_0le, n_eqm, m_eqn, n_ltm, n_and, n_or, n_xor, n_shl, n_shr, tb1, tb0, bP_1, bP_0, bP_n0, ix_n, inb_n, u_eq, u_eqm, k20 (ci_L I), ma_k M]
      refine lzT r_T_hold hC ?_ (ci_hold W I1 hC (Nat.min_le_right _ _))
      exact (frc_uns g _).trans (frc_fp (((Fp.refl (fun a => a = bm m + 1 ∨ a = bm m + 2) (wi h2 20 17 (nI (min c m)))).wi (Or.inl rfl) _ _).wi (Or.inr rfl) _ _) g (fun a q => by have q2 : a = bm m + 1 ∨ a = bm m + 2 := q; unfold clR; omega))
    · refine hP.1 _ _ s_T_hold_34 _ _ _ _ _ ?_
      simp (maxSteps := 1000000) (disch := omega) only [g_T_hold_34, slk, List.map_cons, List.map_nil, List.sum_cons, List.sum_nil, vc_i, vc_r, vc_n, vc_l, vc_o, Nat.add_zero, kO_e, kA_e, hdO_a, eq_self, blk, stp, lg, ls0, lk, ls1, ls2, kI_i, kL_l, kR_r, kR_n, kR_o, s1I_i, s2I_i, s1L_l, s2L_l, s1R_r, s1R_n, s1R_o, s1A_a, cmpc, popn, swt, rf_s, rf_n, cat_i, cat_r, cat_n, cat_l, true_and, and_true, List.length_cons, List.length_nil, Nat.zero_add, Int.reduceToNat, Nat.reduceAdd, Nat.reduceDiv, Nat.reduceMod, Nat.reduceMul, Nat.reduceSub, Nat.reduceLeDiff, Nat.reduceLT, Nat.reduceEqDiff, ↓reduceIte, r_gr_wi, r_gl_wi, r_gk_wi, r_gn_wi, r_wi_eq, r_wi_ne, r_wi_nj, r_gi_wr, r_gl_wr, r_gk_wr, r_gn_wr, r_gr_wa, r_gl_wa, r_gk_wa, r_gn_wa, aa_e, as_e, al_e, u_lt, u_le, u_gt, u_ge, u_lt0, u_le0, u_gt0, u_ge0, Classical.not_not, not_true_eq_false, not_false_eq_true, oi_n, oi_m, n_dec, nI_add, pk_mul, n_sub, n_eq, n_le, n_lt, n_eq0, n_lt0, n_le0, n_0lt, n_0le, n_eqm, m_eqn, n_ltm, n_and, n_or, n_xor, n_shl, n_shr, tb1, tb0, bP_1, bP_0, bP_n0, ix_n, inb_n, u_eq, u_eqm, ma_k M]
      exact ⟨fun _ => no (fun y => by have := y.2.2; omega) _, fun z => (by first | exact z.elim | cases z | exact absurd rfl z | exact absurd trivial z | exact absurd id z | (exfalso; omega))⟩
  · refine hP.1 _ _ s_T_hold_0 _ _ _ _ _ ?_
    simp (maxSteps := 1000000) (disch := omega) only [g_T_hold_0, slk, List.map_cons, List.map_nil, List.sum_cons, List.sum_nil, vc_i, vc_r, vc_n, vc_l, vc_o, Nat.add_zero, kO_e, kA_e, hdO_a, eq_self, blk, stp, lg, ls0, lk, ls1, ls2, kI_i, kL_l, kR_r, kR_n, kR_o, s1I_i, s2I_i, s1L_l, s2L_l, s1R_r, s1R_n, s1R_o, s1A_a, cmpc, popn, swt, rf_s, rf_n, cat_i, cat_r, cat_n, cat_l, true_and, and_true, List.length_cons, List.length_nil, Nat.zero_add, Int.reduceToNat, Nat.reduceAdd, Nat.reduceDiv, Nat.reduceMod, Nat.reduceMul, Nat.reduceSub, Nat.reduceLeDiff, Nat.reduceLT, Nat.reduceEqDiff, ↓reduceIte, r_gr_wi, r_gl_wi, r_gk_wi, r_gn_wi, r_wi_eq, r_wi_ne, r_wi_nj, r_gi_wr, r_gl_wr, r_gk_wr, r_gn_wr, r_gr_wa, r_gl_wa, r_gk_wa, r_gn_wa, aa_e, as_e, al_e, u_lt, u_le, u_gt, u_ge, u_lt0, u_le0, u_gt0, u_ge0, Classical.not_not, not_true_eq_false, not_false_eq_true, oi_n, oi_m, n_dec, nI_add, pk_mul, n_sub, n_eq, n_le, n_lt, n_eq0, n_lt0, n_le0, n_0lt, n_0le, n_eqm, m_eqn, n_ltm, n_and, n_or, n_xor, n_shl, n_shr, tb1, tb0, bP_1, bP_0, bP_n0, ix_n, inb_n, u_eq, u_eqm, k20 (ci_L I)]
    refine wcf (c_T_matterAt0 W I hm1 hm) ⟨by omega, by omega⟩ ?_
    simp (maxSteps := 1000000) (disch := omega) only [slk, List.map_cons, List.map_nil, List.sum_cons, List.sum_nil, vc_i, vc_r, vc_n, vc_l, vc_o, Nat.add_zero, kO_e, kA_e, hdO_a, eq_self, blk, stp, lg, ls0, lk, ls1, ls2, kI_i, kL_l, kR_r, kR_n, kR_o, s1I_i, s2I_i, s1L_l, s2L_l, s1R_r, s1R_n, s1R_o, s1A_a, cmpc, popn, swt, rf_s, rf_n, cat_i, cat_r, cat_n, cat_l, true_and, and_true, List.length_cons, List.length_nil, Nat.zero_add, Int.reduceToNat, Nat.reduceAdd, Nat.reduceDiv, Nat.reduceMod, Nat.reduceMul, Nat.reduceSub, Nat.reduceLeDiff, Nat.reduceLT, Nat.reduceEqDiff, ↓reduceIte, r_gr_wi, r_gl_wi, r_gk_wi, r_gn_wi, r_wi_eq, r_wi_ne, r_wi_nj, r_gi_wr, r_gl_wr, r_gk_wr, r_gn_wr, r_gr_wa, r_gl_wa, r_gk_wa, r_gn_wa, aa_e, as_e, al_e, u_lt, u_le, u_gt, u_ge, u_lt0, u_le0, u_gt0, u_ge0, Classical.not_not, not_true_eq_false, not_false_eq_true, oi_n, oi_m, n_dec, nI_add, pk_mul, n_sub, n_eq, n_le, n_lt, n_eq0, n_lt0, n_le0, n_0lt, n_0le, n_eqm, m_eqn, n_ltm, n_and, n_or, n_xor, n_shl, n_shr, tb1, tb0, bP_1, bP_0, bP_n0, ix_n, inb_n, u_eq, u_eqm, k20 (ci_L I)]
    refine ⟨fun _ => no (fun y => hm1 y.2.1.1) _, fun z => (by first | exact z.elim | cases z | exact absurd rfl z | exact absurd trivial z | exact absurd id z | (exfalso; omega))⟩
/-! cares -/
theorem ca_o {s : St} {e m p v e2 m2 p2 : Nat} (hm : m < 4) (hp : p < 5) (hm2 : m2 < 4) (hp2 : p2 < 5) (h : ¬ (e2 = e ∧ m2 = m ∧ p2 = p)) : careS s e m p v 115 (5 * (4 * e2 + m2) + p2) = s 115 (5 * (4 * e2 + m2) + p2) := uS_o (fun z => h (by omega))
theorem ca_k {s : St} {e m p v : Nat} : careS s e m p v 115 (5 * (4 * e + m) + p) = v := by
  unfold careS
  rw [show 5 * (4 * e + m) + p = (4 * e + m) * 5 + p by omega]
  exact uS_k
theorem ci_care (W : RH h s) {h2 : AH} (I : CI h2 s bm c) {e m p v : Nat} (hC : careC s e m p v) : CI (wi h2 (bm m + 4 + e) p (nI v)) (careS s e m p v) bm c := by
  have b0 := rs_m W
  have b1 := rs_e W
  have g := (ci_L I).2.2
  obtain ⟨q1, ⟨q2, q3⟩, q5⟩ := hC
  have hm := q2
  have b4 := rs_p W hm
  have bb := ci_b I hm
  have c4 := (ci_ct I).2.2.2.2.2
  obtain ⟨H, eH⟩ : ∃ H, H = wi h2 (bm m + 4 + e) p (nI v) := ⟨_, rfl⟩
  rw [← eH]
  have FP : Fp (fun a => a = bm m + 4 + e) h2 H := by
    rw [eH]
    exact (Fp.refl (fun a => a = bm m + 4 + e) h2).wi rfl _ _
  have FB := FP.fg
  have pu := ci_pu I
  refine ⟨FB.lay (ci_L I) (fun a j y => by first | exact y.elim | (unfold isT; omega)), Fg.cc (s := s) FB g (ci_C I) (fun a q => by omega) (fun j y => (by first | exact y.elim | omega)) (fun j _ y => (by first | exact y.elim | omega)) (fun e he => rs_md W he), Fg.ct (s := s) FB g (ci_ct I) (fun q => by omega), ?_, (show BO s bm from ci_bo I), Fg.txa (s := s) FB g (ci_tx I) (fun t ht a q => by have := isTx_b (ci_tx I) ht; have := ci_dj I t ht m hm; omega) (fun t ht j y => by first | exact y.elim | (have := isTx_b (ci_tx I) ht; have := ci_dj I t ht m hm; omega)) (fun j _ y => (by first | exact y.elim | omega)) (fun j _ y => (by first | exact y.elim | omega)), Fg.dj (s := s) FB g (ci_dj I) (fun j _ y => (by first | exact y.elim | omega)) (fun j _ y => (by first | exact y.elim | omega)), Fg.tpc (s := s) FB g (ci_tp I) ⟨fun q => by omega, fun q => by omega⟩, Fg.plc (s := s) FB g (ci_pl I) (fun a q => by omega), Fg.gfc (s := s) FB g (ci_gf I) (by rw [FB.2.2.1 61 (by omega) (fun q => by omega)]) (fun a q => by omega), Fg.asc (s := s) FB g (ci_as I) (fun a q => by omega), Fg.twc (s := s) FB g (ci_tw I) (fun a ha q => by have := ta_b ha; unfold isT at ha; omega), std_ag W FB g (ci_ct I).2.2.2.2.2 (ci_st I) rfl (fun i hi => ⟨⟨rfl, fun _ => rfl⟩, ⟨rfl, rfl, rfl⟩, fun _ _ => rfl, fun _ _ _ _ => rfl, fun _ _ => rfl, fun _ _ _ _ _ _ => rfl, fun _ _ _ _ _ => Iff.rfl, fun _ => Iff.rfl, fun ed rs e => trI_c _ (fun k hk => ⟨rfl, rfl, fun _ => Iff.rfl⟩)⟩) (fun j hj => rfl) (fun j hj a q => by have e : tOf j = 75 + 8 * j := rfl; omega) (fun j hj y => y.elim), ⟨⟨pu.1.1, fun e2 m2 p2 z1 z2 z3 z5 => ?_, pu.1.2.2⟩, pu.2⟩⟩
  · intro m2 hm2
    have hm2' : m2 < s 107 19 := hm2
    obtain ⟨m1, mA, mV, mR⟩ := ci_m I m2 hm2'
    have b2 := ci_b I hm2'
    refine ⟨by rw [FP.gr]; exact m1, FP.ma mA, ?_, ?_⟩
    · obtain ⟨v1, v2, v3, v4, v5⟩ := mV
      have far : m2 ≠ m → bm m2 + 14 < bm m ∨ bm m + 14 < bm m2 := fun z => by
        rcases Nat.lt_or_ge m2 m with y | y
        · exact Or.inl (ci_bo I m2 m y hm)
        · exact Or.inr (ci_bo I m m2 (by omega) hm2')
      have ne : ∀ a, (bm m2 ≤ a ∧ a ≤ bm m2 + 14) → a ≠ bm m + 4 + e → gi H a = gi h2 a := fun a _ z => FP.2 a z
      have n0 : bm m2 ≠ bm m + 4 + e ∧ bm m2 + 14 ≠ bm m + 4 + e ∧ bm m2 + 1 ≠ bm m + 4 + e ∧ bm m2 + 2 ≠ bm m + 4 + e ∧ bm m2 + 12 ≠ bm m + 4 + e ∧ bm m2 + 13 ≠ bm m + 4 + e := by
        by_cases z : m2 = m
        · subst z
          omega
        · have := far z
          omega
      refine ⟨?_, fun x hx => ?_, fun x hx => ?_, fun x p2 hx hp2 => ?_, fun i hi => ?_⟩
      · rw [ne _ (by omega) n0.1]; exact v1
      · rw [ne _ (by omega) n0.2.1]; exact v2 x hx
      · rw [ne (bm m2 + 1) (by omega) n0.2.2.1, ne (bm m2 + 2) (by omega) n0.2.2.2.1]; exact v3 x hx
      · show gi H (bm m2 + 4 + x) p2 = nI (nif (x < s 107 18) (careS s e m p v 115 (5 * (4 * x + m2) + p2)) 1)
        by_cases z : x = e ∧ m2 = m ∧ p2 = p
        · obtain ⟨z1, z2, z3⟩ := z
          subst z1
          subst z2
          subst z3
          rw [ca_k, nif_t q1, eH, r_wi_eq]
        · rw [ca_o (by omega) (by omega) (by omega) hp2 z]
          have h1 : gi H (bm m2 + 4 + x) p2 = gi h2 (bm m2 + 4 + x) p2 := by
            rw [eH]
            by_cases y : bm m2 + 4 + x = bm m + 4 + e
            · have y1 : m2 = m := by
                apply Classical.byContradiction
                intro y2
                have := far y2
                omega
              subst y1
              have y2 : x = e := by omega
              subst y2
              exact r_wi_nj _ _ _ (fun y3 => z ⟨rfl, rfl, y3⟩)
            · exact r_wi_ne _ _ _ _ y
          rw [h1]
          exact v4 x p2 hx hp2
      · rw [ne (bm m2 + 12) (by omega) n0.2.2.2.2.1, ne (bm m2 + 13) (by omega) n0.2.2.2.2.2]; exact v5 i hi
    · show gr H (bm m2) 10 = lwR H s m2
      unfold lwR
      rw [FP.gr]
      exact mR
  · have z5' : ¬ (m2 < s 107 19 ∧ p2 < s 112 m2) := z5
    rw [ca_o (by omega) (by omega) z2 z3 (fun y => z5' (by
      obtain ⟨y1, y2, y3⟩ := y
      subst y2
      subst y3
      exact ⟨q2, q3⟩))]
    exact pu.1.2.1 e2 m2 p2 z1 z2 z3 z5'
theorem c_T_care (W : RH h s) {h2 : AH} (I : CI h2 s bm c) {e m p v : Nat} (he : e < 4294967296) (hm : m < 4294967296) (hp : p < 4294967296) (hv : v < 4294967296) : Mz (d + 2) 8 [.ref 20, .int (nI e), .int (nI m), .int (nI p), .int (nI v)] h2 0 0 (PC2 (bP (careC s e m p v)) (ifS (careC s e m p v) (careS s e m p v) s) h2) := by
  have b0 := rs_m W
  have b1 := rs_e W
  refine mz_in (l := [some (.ref 20), some (.int (nI e)), some (.int (nI m)), some (.int (nI p)), some (.int (nI v)), none]) mk_T_care n_T_care rfl l_T_care rfl (Nat.le_of_ble_eq_true rfl) fun P hP => ?_
  have no : ¬ careC s e m p v → ∀ x, P 45 [some (.ref 20), some (.int (nI e)), some (.int (nI m)), some (.int (nI p)), some (.int (nI v)), x] [] h2 0 0 := by
    intro q x
    refine hP.1 _ _ s_T_care_45 _ _ _ _ _ ?_
    simp (maxSteps := 1000000) (disch := omega) only [g_T_care_45, slk, List.map_cons, List.map_nil, List.sum_cons, List.sum_nil, vc_i, vc_r, vc_n, vc_l, vc_o, Nat.add_zero, kO_e, kA_e, hdO_a, eq_self, blk, stp, lg, ls0, lk, ls1, ls2, kI_i, kL_l, kR_r, kR_n, kR_o, s1I_i, s2I_i, s1L_l, s2L_l, s1R_r, s1R_n, s1R_o, s1A_a, cmpc, popn, swt, rf_s, rf_n, cat_i, cat_r, cat_n, cat_l, true_and, and_true, List.length_cons, List.length_nil, Nat.zero_add, Int.reduceToNat, Nat.reduceAdd, Nat.reduceDiv, Nat.reduceMod, Nat.reduceMul, Nat.reduceSub, Nat.reduceLeDiff, Nat.reduceLT, Nat.reduceEqDiff, ↓reduceIte, r_gr_wi, r_gl_wi, r_gk_wi, r_gn_wi, r_wi_eq, r_wi_ne, r_wi_nj, r_gi_wr, r_gl_wr, r_gk_wr, r_gn_wr, r_gr_wa, r_gl_wa, r_gk_wa, r_gn_wa, aa_e, as_e, al_e, u_lt, u_le, u_gt, u_ge, u_lt0, u_le0, u_gt0, u_ge0, Classical.not_not, not_true_eq_false, not_false_eq_true, oi_n, oi_m, n_dec, nI_add, pk_mul, n_sub, n_eq, n_le, n_lt, n_eq0, n_lt0, n_le0, n_0lt, n_0le, n_eqm, m_eqn, n_ltm, n_and, n_or, n_xor, n_shl, n_shr, tb1, tb0, bP_1, bP_0, bP_n0, ix_n, inb_n, u_eq, u_eqm]
    exact lzF r_T_care q (FrC.refl _) I
  by_cases hm1 : m < s 107 19
  · have b4 := rs_p W hm1
    have bb := ci_b I hm1
    have mm := ci_m I m hm1
    have M := mm.2.1
    refine hP.1 _ _ s_T_care_0 _ _ _ _ _ ?_
    simp (maxSteps := 1000000) (disch := omega) only [g_T_care_0, slk, List.map_cons, List.map_nil, List.sum_cons, List.sum_nil, vc_i, vc_r, vc_n, vc_l, vc_o, Nat.add_zero, kO_e, kA_e, hdO_a, eq_self, blk, stp, lg, ls0, lk, ls1, ls2, kI_i, kL_l, kR_r, kR_n, kR_o, s1I_i, s2I_i, s1L_l, s2L_l, s1R_r, s1R_n, s1R_o, s1A_a, cmpc, popn, swt, rf_s, rf_n, cat_i, cat_r, cat_n, cat_l, true_and, and_true, List.length_cons, List.length_nil, Nat.zero_add, Int.reduceToNat, Nat.reduceAdd, Nat.reduceDiv, Nat.reduceMod, Nat.reduceMul, Nat.reduceSub, Nat.reduceLeDiff, Nat.reduceLT, Nat.reduceEqDiff, ↓reduceIte, r_gr_wi, r_gl_wi, r_gk_wi, r_gn_wi, r_wi_eq, r_wi_ne, r_wi_nj, r_gi_wr, r_gl_wr, r_gk_wr, r_gn_wr, r_gr_wa, r_gl_wa, r_gk_wa, r_gn_wa, aa_e, as_e, al_e, u_lt, u_le, u_gt, u_ge, u_lt0, u_le0, u_gt0, u_ge0, Classical.not_not, not_true_eq_false, not_false_eq_true, oi_n, oi_m, n_dec, nI_add, pk_mul, n_sub, n_eq, n_le, n_lt, n_eq0, n_lt0, n_le0, n_0lt, n_0le, n_eqm, m_eqn, n_ltm, n_and, n_or, n_xor, n_shl, n_shr, tb1, tb0, bP_1, bP_0, bP_n0, ix_n, inb_n, u_eq, u_eqm, k20 (ci_L I), ma_k M]
    refine wcf (c_T_matterAt W I hm1) ⟨by omega, by omega⟩ ?_
    simp (maxSteps := 1000000) (disch := omega) only [slk, List.map_cons, List.map_nil, List.sum_cons, List.sum_nil, vc_i, vc_r, vc_n, vc_l, vc_o, Nat.add_zero, kO_e, kA_e, hdO_a, eq_self, blk, stp, lg, ls0, lk, ls1, ls2, kI_i, kL_l, kR_r, kR_n, kR_o, s1I_i, s2I_i, s1L_l, s2L_l, s1R_r, s1R_n, s1R_o, s1A_a, cmpc, popn, swt, rf_s, rf_n, cat_i, cat_r, cat_n, cat_l, true_and, and_true, List.length_cons, List.length_nil, Nat.zero_add, Int.reduceToNat, Nat.reduceAdd, Nat.reduceDiv, Nat.reduceMod, Nat.reduceMul, Nat.reduceSub, Nat.reduceLeDiff, Nat.reduceLT, Nat.reduceEqDiff, ↓reduceIte, r_gr_wi, r_gl_wi, r_gk_wi, r_gn_wi, r_wi_eq, r_wi_ne, r_wi_nj, r_gi_wr, r_gl_wr, r_gk_wr, r_gn_wr, r_gr_wa, r_gl_wa, r_gk_wa, r_gn_wa, aa_e, as_e, al_e, u_lt, u_le, u_gt, u_ge, u_lt0, u_le0, u_gt0, u_ge0, Classical.not_not, not_true_eq_false, not_false_eq_true, oi_n, oi_m, n_dec, nI_add, pk_mul, n_sub, n_eq, n_le, n_lt, n_eq0, n_lt0, n_le0, n_0lt, n_0le, n_eqm, m_eqn, n_ltm, n_and, n_or, n_xor, n_shl, n_shr, tb1, tb0, bP_1, bP_0, bP_n0, ix_n, inb_n, u_eq, u_eqm, k20 (ci_L I), ma_k M]
    refine ⟨fun z => (by first | exact z.elim | cases z | exact absurd rfl z | exact absurd trivial z | exact absurd id z | (exfalso; omega)), fun _ => ?_⟩
    refine hP.1 _ _ s_T_care_12 _ _ _ _ _ ?_
    simp (maxSteps := 1000000) (disch := omega) only [g_T_care_12, slk, List.map_cons, List.map_nil, List.sum_cons, List.sum_nil, vc_i, vc_r, vc_n, vc_l, vc_o, Nat.add_zero, kO_e, kA_e, hdO_a, eq_self, blk, stp, lg, ls0, lk, ls1, ls2, kI_i, kL_l, kR_r, kR_n, kR_o, s1I_i, s2I_i, s1L_l, s2L_l, s1R_r, s1R_n, s1R_o, s1A_a, cmpc, popn, swt, rf_s, rf_n, cat_i, cat_r, cat_n, cat_l, true_and, and_true, List.length_cons, List.length_nil, Nat.zero_add, Int.reduceToNat, Nat.reduceAdd, Nat.reduceDiv, Nat.reduceMod, Nat.reduceMul, Nat.reduceSub, Nat.reduceLeDiff, Nat.reduceLT, Nat.reduceEqDiff, ↓reduceIte, r_gr_wi, r_gl_wi, r_gk_wi, r_gn_wi, r_wi_eq, r_wi_ne, r_wi_nj, r_gi_wr, r_gl_wr, r_gk_wr, r_gn_wr, r_gr_wa, r_gl_wa, r_gk_wa, r_gn_wa, aa_e, as_e, al_e, u_lt, u_le, u_gt, u_ge, u_lt0, u_le0, u_gt0, u_ge0, Classical.not_not, not_true_eq_false, not_false_eq_true, oi_n, oi_m, n_dec, nI_add, pk_mul, n_sub, n_eq, n_le, n_lt, n_eq0, n_lt0, n_le0, n_0lt, n_0le, n_eqm, m_eqn, n_ltm, n_and, n_or, n_xor, n_shl, n_shr, tb1, tb0, bP_1, bP_0, bP_n0, ix_n, inb_n, u_eq, u_eqm, k20 (ci_L I), f20_0 (ci_L I), k21 (ci_L I), ma_k M]
    refine wc (c_Ci_has (ci_L I) (ci_C I).1.1 b1 he) ⟨by omega, by omega⟩ ?_
    simp (maxSteps := 1000000) (disch := omega) only [slk, List.map_cons, List.map_nil, List.sum_cons, List.sum_nil, vc_i, vc_r, vc_n, vc_l, vc_o, Nat.add_zero, kO_e, kA_e, hdO_a, eq_self, blk, stp, lg, ls0, lk, ls1, ls2, kI_i, kL_l, kR_r, kR_n, kR_o, s1I_i, s2I_i, s1L_l, s2L_l, s1R_r, s1R_n, s1R_o, s1A_a, cmpc, popn, swt, rf_s, rf_n, cat_i, cat_r, cat_n, cat_l, true_and, and_true, List.length_cons, List.length_nil, Nat.zero_add, Int.reduceToNat, Nat.reduceAdd, Nat.reduceDiv, Nat.reduceMod, Nat.reduceMul, Nat.reduceSub, Nat.reduceLeDiff, Nat.reduceLT, Nat.reduceEqDiff, ↓reduceIte, r_gr_wi, r_gl_wi, r_gk_wi, r_gn_wi, r_wi_eq, r_wi_ne, r_wi_nj, r_gi_wr, r_gl_wr, r_gk_wr, r_gn_wr, r_gr_wa, r_gl_wa, r_gk_wa, r_gn_wa, aa_e, as_e, al_e, u_lt, u_le, u_gt, u_ge, u_lt0, u_le0, u_gt0, u_ge0, Classical.not_not, not_true_eq_false, not_false_eq_true, oi_n, oi_m, n_dec, nI_add, pk_mul, n_sub, n_eq, n_le, n_lt, n_eq0, n_lt0, n_le0, n_0lt, n_0le, n_eqm, m_eqn, n_ltm, n_and, n_or, n_xor, n_shl, n_shr, tb1, tb0, bP_1, bP_0, bP_n0, ix_n, inb_n, u_eq, u_eqm, k20 (ci_L I), f20_0 (ci_L I), k21 (ci_L I), ma_k M]
    refine ⟨fun z => no (fun y => z y.1) _, fun z => ?_⟩
    have he1 : e < s 107 18 := by first | exact z | exact Classical.not_not.mp z | (simpa using z)
    refine hP.1 _ _ s_T_care_23 _ _ _ _ _ ?_
    simp (maxSteps := 1000000) (disch := omega) only [g_T_care_23, slk, List.map_cons, List.map_nil, List.sum_cons, List.sum_nil, vc_i, vc_r, vc_n, vc_l, vc_o, Nat.add_zero, kO_e, kA_e, hdO_a, eq_self, blk, stp, lg, ls0, lk, ls1, ls2, kI_i, kL_l, kR_r, kR_n, kR_o, s1I_i, s2I_i, s1L_l, s2L_l, s1R_r, s1R_n, s1R_o, s1A_a, cmpc, popn, swt, rf_s, rf_n, cat_i, cat_r, cat_n, cat_l, true_and, and_true, List.length_cons, List.length_nil, Nat.zero_add, Int.reduceToNat, Nat.reduceAdd, Nat.reduceDiv, Nat.reduceMod, Nat.reduceMul, Nat.reduceSub, Nat.reduceLeDiff, Nat.reduceLT, Nat.reduceEqDiff, ↓reduceIte, r_gr_wi, r_gl_wi, r_gk_wi, r_gn_wi, r_wi_eq, r_wi_ne, r_wi_nj, r_gi_wr, r_gl_wr, r_gk_wr, r_gn_wr, r_gr_wa, r_gl_wa, r_gk_wa, r_gn_wa, aa_e, as_e, al_e, u_lt, u_le, u_gt, u_ge, u_lt0, u_le0, u_gt0, u_ge0, Classical.not_not, not_true_eq_false, not_false_eq_true, oi_n, oi_m, n_dec, nI_add, pk_mul, n_sub, n_eq, n_le, n_lt, n_eq0, n_lt0, n_le0, n_0lt, n_0le, n_eqm, m_eqn, n_ltm, n_and, n_or, n_xor, n_shl, n_shr, tb1, tb0, bP_1, bP_0, bP_n0, ix_n, inb_n, u_eq, u_eqm, ma_k M]
    refine wc (c_Ma_hasWay W M mm.2.2.1 hm1 hp (w := 0) (by omega)) ⟨by omega, by omega⟩ ?_
    simp (maxSteps := 1000000) (disch := omega) only [slk, List.map_cons, List.map_nil, List.sum_cons, List.sum_nil, vc_i, vc_r, vc_n, vc_l, vc_o, Nat.add_zero, kO_e, kA_e, hdO_a, eq_self, blk, stp, lg, ls0, lk, ls1, ls2, kI_i, kL_l, kR_r, kR_n, kR_o, s1I_i, s2I_i, s1L_l, s2L_l, s1R_r, s1R_n, s1R_o, s1A_a, cmpc, popn, swt, rf_s, rf_n, cat_i, cat_r, cat_n, cat_l, true_and, and_true, List.length_cons, List.length_nil, Nat.zero_add, Int.reduceToNat, Nat.reduceAdd, Nat.reduceDiv, Nat.reduceMod, Nat.reduceMul, Nat.reduceSub, Nat.reduceLeDiff, Nat.reduceLT, Nat.reduceEqDiff, ↓reduceIte, r_gr_wi, r_gl_wi, r_gk_wi, r_gn_wi, r_wi_eq, r_wi_ne, r_wi_nj, r_gi_wr, r_gl_wr, r_gk_wr, r_gn_wr, r_gr_wa, r_gl_wa, r_gk_wa, r_gn_wa, aa_e, as_e, al_e, u_lt, u_le, u_gt, u_ge, u_lt0, u_le0, u_gt0, u_ge0, Classical.not_not, not_true_eq_false, not_false_eq_true, oi_n, oi_m, n_dec, nI_add, pk_mul, n_sub, n_eq, n_le, n_lt, n_eq0, n_lt0, n_le0, n_0lt, n_0le, n_eqm, m_eqn, n_ltm, n_and, n_or, n_xor, n_shl, n_shr, tb1, tb0, bP_1, bP_0, bP_n0, ix_n, inb_n, u_eq, u_eqm, ma_k M]
    refine ⟨fun z => no (fun y => z ⟨y.2.1.2, by omega⟩) _, fun z => ?_⟩
    have pw : p < s 112 m ∧ 0 < s 113 m := by first | exact z | exact Classical.not_not.mp z | (simpa using z)
    rcases Nat.lt_or_ge v 2147483648 with v1 | v1
    · refine hP.1 _ _ s_T_care_33 _ _ _ _ _ ?_
      simp (maxSteps := 1000000) (disch := omega) only [g_T_care_33, slk, List.map_cons, List.map_nil, List.sum_cons, List.sum_nil, vc_i, vc_r, vc_n, vc_l, vc_o, Nat.add_zero, kO_e, kA_e, hdO_a, eq_self, blk, stp, lg, ls0, lk, ls1, ls2, kI_i, kL_l, kR_r, kR_n, kR_o, s1I_i, s2I_i, s1L_l, s2L_l, s1R_r, s1R_n, s1R_o, s1A_a, cmpc, popn, swt, rf_s, rf_n, cat_i, cat_r, cat_n, cat_l, true_and, and_true, List.length_cons, List.length_nil, Nat.zero_add, Int.reduceToNat, Nat.reduceAdd, Nat.reduceDiv, Nat.reduceMod, Nat.reduceMul, Nat.reduceSub, Nat.reduceLeDiff, Nat.reduceLT, Nat.reduceEqDiff, ↓reduceIte, r_gr_wi, r_gl_wi, r_gk_wi, r_gn_wi, r_wi_eq, r_wi_ne, r_wi_nj, r_gi_wr, r_gl_wr, r_gk_wr, r_gn_wr, r_gr_wa, r_gl_wa, r_gk_wa, r_gn_wa, aa_e, as_e, al_e, u_lt, u_le, u_gt, u_ge, u_lt0, u_le0, u_gt0, u_ge0, Classical.not_not, not_true_eq_false, not_false_eq_true, oi_n, oi_m, n_dec, nI_add, pk_mul, n_sub, n_eq, n_le, n_lt, n_eq0, n_lt0, n_le0, n_0lt, n_0le, n_eqm, m_eqn, n_ltm, n_and, n_or, n_xor, n_shl, n_shr, tb1, tb0, bP_1, bP_0, bP_n0, ix_n, inb_n, u_eq, u_eqm, ma_k M]
      refine ⟨fun z => (by first | exact z.elim | cases z | exact absurd rfl z | exact absurd trivial z | exact absurd id z | (exfalso; omega)), fun _ => ?_⟩
      refine hP.1 _ _ s_T_care_38 _ _ _ _ _ ?_
      simp (maxSteps := 1000000) (disch := omega) only [g_T_care_38, slk, List.map_cons, List.map_nil, List.sum_cons, List.sum_nil, vc_i, vc_r, vc_n, vc_l, vc_o, Nat.add_zero, kO_e, kA_e, hdO_a, eq_self, blk, stp, lg, ls0, lk, ls1, ls2, kI_i, kL_l, kR_r, kR_n, kR_o, s1I_i, s2I_i, s1L_l, s2L_l, s1R_r, s1R_n, s1R_o, s1A_a, cmpc, popn, swt, rf_s, rf_n, cat_i, cat_r, cat_n, cat_l, true_and, and_true, List.length_cons, List.length_nil, Nat.zero_add, Int.reduceToNat, Nat.reduceAdd, Nat.reduceDiv, Nat.reduceMod, Nat.reduceMul, Nat.reduceSub, Nat.reduceLeDiff, Nat.reduceLT, Nat.reduceEqDiff, ↓reduceIte, r_gr_wi, r_gl_wi, r_gk_wi, r_gn_wi, r_wi_eq, r_wi_ne, r_wi_nj, r_gi_wr, r_gl_wr, r_gk_wr, r_gn_wr, r_gr_wa, r_gl_wa, r_gk_wa, r_gn_wa, aa_e, as_e, al_e, u_lt, u_le, u_gt, u_ge, u_lt0, u_le0, u_gt0, u_ge0, Classical.not_not, not_true_eq_false, not_false_eq_true, oi_n, oi_m, n_dec, nI_add, pk_mul, n_sub, n_eq, n_le, n_lt, n_eq0, n_lt0, n_le0, n_0lt, n_0le, n_eqm, m_eqn, n_ltm, n_and, n_or, n_xor, n_shl, n_shr, tb1, tb0, bP_1, bP_0, bP_n0, ix_n, inb_n, u_eq, u_eqm, ma_k M]
      refine ⟨fun z => ?_, fun z => no (fun y => by have := y.2.2; omega) _⟩
      have hC : careC s e m p v := ⟨he1, ⟨hm1, pw.1⟩, by omega⟩
      have g := (ci_L I).2.2
      have kr := ma_kr M (e := e) (by omega)
      have rr := ma_rr M (e := e) (by omega)
      have t20 : 20 ≤ bm m + 4 + e := by omega
      refine hP.1 _ _ s_T_care_47 _ _ _ _ _ ?_
      simp (maxSteps := 1000000) (disch := omega) only [g_T_care_47, slk, List.map_cons, List.map_nil, List.sum_cons, List.sum_nil, vc_i, vc_r, vc_n, vc_l, vc_o, Nat.add_zero, kO_e, kA_e, hdO_a, eq_self, blk, stp, lg, ls0, lk, ls1, ls2, kI_i, kL_l, kR_r, kR_n, kR_o, s1I_i, s2I_i, s1L_l, s2L_l, s1R_r, s1R_n, s1R_o, s1A_a, cmpc, popn, swt, rf_s, rf_n, cat_i, cat_r, cat_n, cat_l, true_and, and_true, List.length_cons, List.length_nil, Nat.zero_add, Int.reduceToNat, Nat.reduceAdd, Nat.reduceDiv, Nat.reduceMod, Nat.reduceMul, Nat.reduceSub, Nat.reduceLeDiff, Nat.reduceLT, Nat.reduceEqDiff, ↓reduceIte, r_gr_wi, r_gl_wi, r_gk_wi, r_gn_wi, r_wi_eq, r_wi_ne, r_wi_nj, r_gi_wr, r_gl_wr, r_gk_wr, r_gn_wr, r_gr_wa, r_gl_wa, r_gk_wa, r_gn_wa, aa_e, as_e, al_e, u_lt, u_le, u_gt, u_ge, u_lt0, u_le0, u_gt0, u_ge0, Classical.not_not, not_true_eq_false, not_false_eq_true, oi_n, oi_m, n_dec, nI_add, pk_mul, n_sub, n_eq, n_le, n_lt, n_eq0, n_lt0, n_le0, n_0lt, n_0le, n_eqm, m_eqn, n_ltm, n_and, n_or, n_xor, n_shl, n_shr, tb1, tb0, bP_1, bP_0, bP_n0, ix_n, inb_n, u_eq, u_eqm, ma_k M, ma_k1 M, ma_k2 M, ma_k3 M, ma_k12 M, ma_k13 M, ma_k14 M, ma_r2 M, ma_r3 M, ma_r4 M, ma_r5 M, ma_r6 M, ma_r7 M, kr, rr, t20]
      refine lzT r_T_care hC ?_ (ci_care W I hC)
      exact frc_fp ((Fp.refl (fun a => a = bm m + 4 + e) h2).wi rfl _ _) g (fun a q => by have q2 : a = bm m + 4 + e := q; unfold clR; omega)
    · refine hP.1 _ _ s_T_care_33 _ _ _ _ _ ?_
      simp (maxSteps := 1000000) (disch := omega) only [g_T_care_33, slk, List.map_cons, List.map_nil, List.sum_cons, List.sum_nil, vc_i, vc_r, vc_n, vc_l, vc_o, Nat.add_zero, kO_e, kA_e, hdO_a, eq_self, blk, stp, lg, ls0, lk, ls1, ls2, kI_i, kL_l, kR_r, kR_n, kR_o, s1I_i, s2I_i, s1L_l, s2L_l, s1R_r, s1R_n, s1R_o, s1A_a, cmpc, popn, swt, rf_s, rf_n, cat_i, cat_r, cat_n, cat_l, true_and, and_true, List.length_cons, List.length_nil, Nat.zero_add, Int.reduceToNat, Nat.reduceAdd, Nat.reduceDiv, Nat.reduceMod, Nat.reduceMul, Nat.reduceSub, Nat.reduceLeDiff, Nat.reduceLT, Nat.reduceEqDiff, ↓reduceIte, r_gr_wi, r_gl_wi, r_gk_wi, r_gn_wi, r_wi_eq, r_wi_ne, r_wi_nj, r_gi_wr, r_gl_wr, r_gk_wr, r_gn_wr, r_gr_wa, r_gl_wa, r_gk_wa, r_gn_wa, aa_e, as_e, al_e, u_lt, u_le, u_gt, u_ge, u_lt0, u_le0, u_gt0, u_ge0, Classical.not_not, not_true_eq_false, not_false_eq_true, oi_n, oi_m, n_dec, nI_add, pk_mul, n_sub, n_eq, n_le, n_lt, n_eq0, n_lt0, n_le0, n_0lt, n_0le, n_eqm, m_eqn, n_ltm, n_and, n_or, n_xor, n_shl, n_shr, tb1, tb0, bP_1, bP_0, bP_n0, ix_n, inb_n, u_eq, u_eqm, ma_k M]
      exact ⟨fun _ => no (fun y => by have := y.2.2; omega) _, fun z => (by first | exact z.elim | cases z | exact absurd rfl z | exact absurd trivial z | exact absurd id z | (exfalso; omega))⟩
  · refine hP.1 _ _ s_T_care_0 _ _ _ _ _ ?_
    simp (maxSteps := 1000000) (disch := omega) only [g_T_care_0, slk, List.map_cons, List.map_nil, List.sum_cons, List.sum_nil, vc_i, vc_r, vc_n, vc_l, vc_o, Nat.add_zero, kO_e, kA_e, hdO_a, eq_self, blk, stp, lg, ls0, lk, ls1, ls2, kI_i, kL_l, kR_r, kR_n, kR_o, s1I_i, s2I_i, s1L_l, s2L_l, s1R_r, s1R_n, s1R_o, s1A_a, cmpc, popn, swt, rf_s, rf_n, cat_i, cat_r, cat_n, cat_l, true_and, and_true, List.length_cons, List.length_nil, Nat.zero_add, Int.reduceToNat, Nat.reduceAdd, Nat.reduceDiv, Nat.reduceMod, Nat.reduceMul, Nat.reduceSub, Nat.reduceLeDiff, Nat.reduceLT, Nat.reduceEqDiff, ↓reduceIte, r_gr_wi, r_gl_wi, r_gk_wi, r_gn_wi, r_wi_eq, r_wi_ne, r_wi_nj, r_gi_wr, r_gl_wr, r_gk_wr, r_gn_wr, r_gr_wa, r_gl_wa, r_gk_wa, r_gn_wa, aa_e, as_e, al_e, u_lt, u_le, u_gt, u_ge, u_lt0, u_le0, u_gt0, u_ge0, Classical.not_not, not_true_eq_false, not_false_eq_true, oi_n, oi_m, n_dec, nI_add, pk_mul, n_sub, n_eq, n_le, n_lt, n_eq0, n_lt0, n_le0, n_0lt, n_0le, n_eqm, m_eqn, n_ltm, n_and, n_or, n_xor, n_shl, n_shr, tb1, tb0, bP_1, bP_0, bP_n0, ix_n, inb_n, u_eq, u_eqm, k20 (ci_L I)]
    refine wcf (c_T_matterAt0 W I hm1 hm) ⟨by omega, by omega⟩ ?_
    simp (maxSteps := 1000000) (disch := omega) only [slk, List.map_cons, List.map_nil, List.sum_cons, List.sum_nil, vc_i, vc_r, vc_n, vc_l, vc_o, Nat.add_zero, kO_e, kA_e, hdO_a, eq_self, blk, stp, lg, ls0, lk, ls1, ls2, kI_i, kL_l, kR_r, kR_n, kR_o, s1I_i, s2I_i, s1L_l, s2L_l, s1R_r, s1R_n, s1R_o, s1A_a, cmpc, popn, swt, rf_s, rf_n, cat_i, cat_r, cat_n, cat_l, true_and, and_true, List.length_cons, List.length_nil, Nat.zero_add, Int.reduceToNat, Nat.reduceAdd, Nat.reduceDiv, Nat.reduceMod, Nat.reduceMul, Nat.reduceSub, Nat.reduceLeDiff, Nat.reduceLT, Nat.reduceEqDiff, ↓reduceIte, r_gr_wi, r_gl_wi, r_gk_wi, r_gn_wi, r_wi_eq, r_wi_ne, r_wi_nj, r_gi_wr, r_gl_wr, r_gk_wr, r_gn_wr, r_gr_wa, r_gl_wa, r_gk_wa, r_gn_wa, aa_e, as_e, al_e, u_lt, u_le, u_gt, u_ge, u_lt0, u_le0, u_gt0, u_ge0, Classical.not_not, not_true_eq_false, not_false_eq_true, oi_n, oi_m, n_dec, nI_add, pk_mul, n_sub, n_eq, n_le, n_lt, n_eq0, n_lt0, n_le0, n_0lt, n_0le, n_eqm, m_eqn, n_ltm, n_and, n_or, n_xor, n_shl, n_shr, tb1, tb0, bP_1, bP_0, bP_n0, ix_n, inb_n, u_eq, u_eqm, k20 (ci_L I)]
    refine ⟨fun _ => no (fun y => hm1 y.2.1.1) _, fun z => (by first | exact z.elim | cases z | exact absurd rfl z | exact absurd trivial z | exact absurd id z | (exfalso; omega))⟩
end
