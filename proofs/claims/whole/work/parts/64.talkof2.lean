/-! ===== the reference: the talk of a matter ===== -/
theorem EO_st {H : AH} {ed rs : Nat → Nat} {m : Nat} (E : EO H ed rs m) {c g : Nat} (c3 : c ≤ 3) (g10 : g < 1024) : EO (wi (wi H 141 m (nI c)) 142 m (nI g)) (fun j => if j = m then c else ed j) (fun j => if j = m then g else rs j) (m + 1) := by
  intro j hj
  by_cases q : j = m
  · subst q
    dsimp only
    rw [if_pos rfl, if_pos rfl]
    refine ⟨?_, ?_, c3, g10⟩
    · simp (disch := omega) only [r_wi_eq, r_wi_ne]
    · simp (disch := omega) only [r_wi_eq]
  · dsimp only
    rw [if_neg q, if_neg q]
    obtain ⟨a, b, c, d⟩ := E j (by omega)
    refine ⟨?_, ?_, c, d⟩
    · simp (disch := omega) only [r_wi_ne, r_wi_nj]
      exact a
    · simp (disch := omega) only [r_wi_ne, r_wi_nj]
      exact b
theorem uS_back (s : St) : uS (unW s) 107 61 (s 107 61) = s := by
  funext b j
  unfold unW uS
  split
  · subst_vars
    split
    · subst_vars
      rfl
    · rfl
  · rfl
/-- the class's heap untouched, and `thrown` too -/
def FzR (h h' : AH) : Prop := FrR h h' ∧ gi h' 107 0 = gi h 107 0
theorem FzR.trans {h h' h2 : AH} (F : FzR h h') (F2 : FzR h' h2) : FzR h h2 := ⟨F.1.trans F2.1, F2.2.trans F.2⟩
theorem Fx.f0 {os as : List Nat} {h h' : AH} (F : Fx os as h h') (hx : as.all (fun a => decide (108 ≤ a ∧ a ≤ 163)) = true) (h0 : xs os as 107 0 = false) : FzR h h' := ⟨F.fr hx, F.2 _ _ h0⟩
theorem Ft.f0 {os as : List Nat} {h h' : AH} (F : Ft os as h h') (hx : as.all (fun a => decide (108 ≤ a ∧ a ≤ 163)) = true) (h0 : xs os as 107 0 = false) : FzR h h' := ⟨F.fr hx, F.2.1 _ _ h0⟩
/-- how the matters below end for a talk of m -/
noncomputable def eB (s : St) (m : Nat) : Nat → Nat := (erS (unW s) m).1
noncomputable def rB (s : St) (m : Nat) : Nat → Nat := (erS (unW s) m).2
/-- the talk of m: its day, its end; its words, its grounds, its looks -/
noncomputable def tkE (s : St) (m : Nat) : Nat × Nat := tlS s (eB s m) (rB s m) m []
noncomputable def tkD (s : St) (m : Nat) : Ds := dE s (eB s m) (rB s m) m [] (tkE s m).1
def Pk (s : St) (m : Nat) (h : AH) (r : Option (Option Value)) (h' : AH) : Prop :=
  r = some none ∧ FzR h h' ∧ RH h' s ∧ SE h' s ∧ SK h' ∧ EO h' (fun j => if j = m then (tkE s m).2 else eB s m j) (fun j => if j = m then (tkD s m).2.1 else rB s m j) (m + 1) ∧ (gi h' 107 54 = nI (tkE s m).2 ∧ gi h' 107 55 = nI (tkE s m).1) ∧ TK h' (tkD s m).1 (tkD s m).2.1 ∧ LKs h' (tkD s m).2.2.2
section
variable {h : AH} {s : St} {d : Nat}
theorem c_R_talkOf (W : RH h s) (K : SK h) (TT : TO s) {m : Nat} (hm : m < s 107 19) (h61 : s 107 61 < 4294967296) (h22 : s 107 22 = 0) : Mz (d + 37) 120 [.ref 107, .int (nI m)] h 0 0 (Pk s m h) := by
  have h1 := rs_m W
  refine mz_in (l := [some (.ref 107), some (.int (nI m)), none, none]) mk_R_talkOf n_R_talkOf rfl l_R_talkOf rfl (Nat.le_of_ble_eq_true rfl) fun P hP => ?_
  have last : ∀ H, FzR h H → RH H (unW s) → SE H (unW s) → SK H → EO H (eB s m) (rB s m) m → P 57 [some (.ref 107), some (.int (nI m)), some (.int (nI (s 107 61))), some (.int (nI m))] [] H 0 0 := by
    intro H F WH SH KH EH
    have hm2 : m < unW s 107 19 := hm
    refine hP.1 _ _ sx_R_talkOf_57 _ _ _ _ _ ?_
    simp (maxSteps := 1000000) (disch := omega) only [gx_R_talkOf_57, slk, List.map_cons, List.map_nil, List.sum_cons, List.sum_nil, vc_i, vc_r, vc_n, vc_l, vc_o, Nat.add_zero, kO_e, kA_e, hdO_a, eq_self, blk, stp, lg, ls0, lk, ls1, ls2, kI_i, kL_l, kR_r, kR_n, kR_o, s1I_i, s2I_i, s1L_l, s2L_l, s1R_r, s1R_n, s1R_o, s1A_a, cmpc, popn, swt, rf_s, rf_n, cat_i, cat_r, cat_n, cat_l, true_and, and_true, List.length_cons, List.length_nil, Nat.zero_add, Int.reduceToNat, Nat.reduceAdd, Nat.reduceDiv, Nat.reduceMod, Nat.reduceMul, Nat.reduceSub, Nat.reduceLeDiff, Nat.reduceLT, Nat.reduceEqDiff, ↓reduceIte, r_gr_wi, r_gl_wi, r_gk_wi, r_gn_wi, r_wi_eq, r_wi_ne, r_wi_nj, r_gi_wr, r_gl_wr, r_gk_wr, r_gn_wr, r_gr_wa, r_gl_wa, r_gk_wa, r_gn_wa, u_lt, u_le, u_gt, u_ge, u_lt0, u_le0, u_gt0, u_ge0, Classical.not_not, not_true_eq_false, not_false_eq_true, oi_n, oi_m, n_dec, nI_add, pk_mul, n_sub, n_eq, n_le, n_lt, n_eq0, n_lt0, n_le0, n_0lt, n_0le, n_eqm, m_eqn, n_ltm, n_and, n_or, n_xor, n_shl, n_shr, tb1, tb0, bP_1, bP_0, bP_n0, ix_n, inb_n, u_eq, u_eqm, k107 WH.1]
    refine hP.1 _ _ sx_R_talkOf_62 _ _ _ _ _ ?_
    simp (maxSteps := 1000000) (disch := omega) only [gx_R_talkOf_62, slk, List.map_cons, List.map_nil, List.sum_cons, List.sum_nil, vc_i, vc_r, vc_n, vc_l, vc_o, Nat.add_zero, kO_e, kA_e, hdO_a, eq_self, blk, stp, lg, ls0, lk, ls1, ls2, kI_i, kL_l, kR_r, kR_n, kR_o, s1I_i, s2I_i, s1L_l, s2L_l, s1R_r, s1R_n, s1R_o, s1A_a, cmpc, popn, swt, rf_s, rf_n, cat_i, cat_r, cat_n, cat_l, true_and, and_true, List.length_cons, List.length_nil, Nat.zero_add, Int.reduceToNat, Nat.reduceAdd, Nat.reduceDiv, Nat.reduceMod, Nat.reduceMul, Nat.reduceSub, Nat.reduceLeDiff, Nat.reduceLT, Nat.reduceEqDiff, ↓reduceIte, r_gr_wi, r_gl_wi, r_gk_wi, r_gn_wi, r_wi_eq, r_wi_ne, r_wi_nj, r_gi_wr, r_gl_wr, r_gk_wr, r_gn_wr, r_gr_wa, r_gl_wa, r_gk_wa, r_gn_wa, u_lt, u_le, u_gt, u_ge, u_lt0, u_le0, u_gt0, u_ge0, Classical.not_not, not_true_eq_false, not_false_eq_true, oi_n, oi_m, n_dec, nI_add, pk_mul, n_sub, n_eq, n_le, n_lt, n_eq0, n_lt0, n_le0, n_0lt, n_0le, n_eqm, m_eqn, n_ltm, n_and, n_or, n_xor, n_shl, n_shr, tb1, tb0, bP_1, bP_0, bP_n0, ix_n, inb_n, u_eq, u_eqm, k107 WH.1]
    refine hP.1 _ _ sx_R_talkOf_67 _ _ _ _ _ ?_
    simp (maxSteps := 1000000) (disch := omega) only [gx_R_talkOf_67, slk, List.map_cons, List.map_nil, List.sum_cons, List.sum_nil, vc_i, vc_r, vc_n, vc_l, vc_o, Nat.add_zero, kO_e, kA_e, hdO_a, eq_self, blk, stp, lg, ls0, lk, ls1, ls2, kI_i, kL_l, kR_r, kR_n, kR_o, s1I_i, s2I_i, s1L_l, s2L_l, s1R_r, s1R_n, s1R_o, s1A_a, cmpc, popn, swt, rf_s, rf_n, cat_i, cat_r, cat_n, cat_l, true_and, and_true, List.length_cons, List.length_nil, Nat.zero_add, Int.reduceToNat, Nat.reduceAdd, Nat.reduceDiv, Nat.reduceMod, Nat.reduceMul, Nat.reduceSub, Nat.reduceLeDiff, Nat.reduceLT, Nat.reduceEqDiff, ↓reduceIte, r_gr_wi, r_gl_wi, r_gk_wi, r_gn_wi, r_wi_eq, r_wi_ne, r_wi_nj, r_gi_wr, r_gl_wr, r_gk_wr, r_gn_wr, r_gr_wa, r_gl_wa, r_gk_wa, r_gn_wa, u_lt, u_le, u_gt, u_ge, u_lt0, u_le0, u_gt0, u_ge0, Classical.not_not, not_true_eq_false, not_false_eq_true, oi_n, oi_m, n_dec, nI_add, pk_mul, n_sub, n_eq, n_le, n_lt, n_eq0, n_lt0, n_le0, n_0lt, n_0le, n_eqm, m_eqn, n_ltm, n_and, n_or, n_xor, n_shl, n_shr, tb1, tb0, bP_1, bP_0, bP_n0, ix_n, inb_n, u_eq, u_eqm, k107 WH.1]
    have Fw : Fx [60, 61] [] H (wi (wi H 107 61 (nI (s 107 61))) 107 60 (nI 0)) := ((Fx.refl _ _ _).wi _ rfl).wi _ rfl
    have Fw1 : Fx [61] [] H (wi H 107 61 (nI (s 107 61))) := (Fx.refl _ _ _).wi _ rfl
    have C1 := rc_set WH.2.1 (a := 107) (k := 61) (v := s 107 61) (by decide)
    rw [uS_back] at C1
    have W2 : RH (wi (wi H 107 61 (nI (s 107 61))) 107 60 (nI 0)) s := rw_wi ⟨Fw1.lay WH.1, C1, W.2.2⟩ rfl
    have S2 : SE (wi (wi H 107 61 (nI (s 107 61))) 107 60 (nI 0)) s := Fw.se SH rfl (fun _ => rfl)
    have K2 := Fw.sk KH rfl
    have E2 := Fw.ft.eo EH (fun _ => rfl) (fun _ => rfl)
    have L2 : LKs (wi (wi H 107 61 (nI (s 107 61))) 107 60 (nI 0)) [] := ⟨r_wi_eq _ _ _ _, fun k hk => absurd hk (Nat.not_lt_zero _)⟩
    refine ⟨_, _, _, c_R_goThroughTalk W2 K2 TT S2 E2 L2 hm h61 (fun _ => rfl), ⟨by omega, by omega⟩, ?_⟩
    rintro r H3 ⟨rfl, F3, eD, T3, L3⟩
    have W3 := F3.rw W2 rfl
    have S3 := F3.se S2 rfl (fun _ => rfl)
    have K3 := F3.sk K2 rfl
    have E3 := F3.eo E2 (fun _ => rfl) (fun _ => rfl)
    have tb := tlS_b (ed := eB s m) (rs := rB s m) (m := m) (ls := []) W
    have dok := dE_ok (ed := eB s m) (rs := rB s m) (ls := []) W hm _ tb.1
    refine hP.1 _ _ sx_R_talkOf_72 _ _ _ _ _ ?_
    simp (maxSteps := 1000000) (disch := omega) only [gx_R_talkOf_72, slk, List.map_cons, List.map_nil, List.sum_cons, List.sum_nil, vc_i, vc_r, vc_n, vc_l, vc_o, Nat.add_zero, kO_e, kA_e, hdO_a, eq_self, blk, stp, lg, ls0, lk, ls1, ls2, kI_i, kL_l, kR_r, kR_n, kR_o, s1I_i, s2I_i, s1L_l, s2L_l, s1R_r, s1R_n, s1R_o, s1A_a, cmpc, popn, swt, rf_s, rf_n, cat_i, cat_r, cat_n, cat_l, true_and, and_true, List.length_cons, List.length_nil, Nat.zero_add, Int.reduceToNat, Nat.reduceAdd, Nat.reduceDiv, Nat.reduceMod, Nat.reduceMul, Nat.reduceSub, Nat.reduceLeDiff, Nat.reduceLT, Nat.reduceEqDiff, ↓reduceIte, r_gr_wi, r_gl_wi, r_gk_wi, r_gn_wi, r_wi_eq, r_wi_ne, r_wi_nj, r_gi_wr, r_gl_wr, r_gk_wr, r_gn_wr, r_gr_wa, r_gl_wa, r_gk_wa, r_gn_wa, u_lt, u_le, u_gt, u_ge, u_lt0, u_le0, u_gt0, u_ge0, Classical.not_not, not_true_eq_false, not_false_eq_true, oi_n, oi_m, n_dec, nI_add, pk_mul, n_sub, n_eq, n_le, n_lt, n_eq0, n_lt0, n_le0, n_0lt, n_0le, n_eqm, m_eqn, n_ltm, n_and, n_or, n_xor, n_shl, n_shr, tb1, tb0, bP_1, bP_0, bP_n0, ix_n, inb_n, u_eq, u_eqm, k107 W3.1, f107_57 W3.1, k141 W3.1, eD.1, T3.1.2]
    refine hP.1 _ _ sx_R_talkOf_82 _ _ _ _ _ ?_
    simp (maxSteps := 1000000) (disch := omega) only [gx_R_talkOf_82, slk, List.map_cons, List.map_nil, List.sum_cons, List.sum_nil, vc_i, vc_r, vc_n, vc_l, vc_o, Nat.add_zero, kO_e, kA_e, hdO_a, eq_self, blk, stp, lg, ls0, lk, ls1, ls2, kI_i, kL_l, kR_r, kR_n, kR_o, s1I_i, s2I_i, s1L_l, s2L_l, s1R_r, s1R_n, s1R_o, s1A_a, cmpc, popn, swt, rf_s, rf_n, cat_i, cat_r, cat_n, cat_l, true_and, and_true, List.length_cons, List.length_nil, Nat.zero_add, Int.reduceToNat, Nat.reduceAdd, Nat.reduceDiv, Nat.reduceMod, Nat.reduceMul, Nat.reduceSub, Nat.reduceLeDiff, Nat.reduceLT, Nat.reduceEqDiff, ↓reduceIte, r_gr_wi, r_gl_wi, r_gk_wi, r_gn_wi, r_wi_eq, r_wi_ne, r_wi_nj, r_gi_wr, r_gl_wr, r_gk_wr, r_gn_wr, r_gr_wa, r_gl_wa, r_gk_wa, r_gn_wa, u_lt, u_le, u_gt, u_ge, u_lt0, u_le0, u_gt0, u_ge0, Classical.not_not, not_true_eq_false, not_false_eq_true, oi_n, oi_m, n_dec, nI_add, pk_mul, n_sub, n_eq, n_le, n_lt, n_eq0, n_lt0, n_le0, n_0lt, n_0le, n_eqm, m_eqn, n_ltm, n_and, n_or, n_xor, n_shl, n_shr, tb1, tb0, bP_1, bP_0, bP_n0, ix_n, inb_n, u_eq, u_eqm, k107 W3.1, f107_58 W3.1, k142 W3.1, eD.1, T3.1.2]
    refine hP.1 _ _ sx_R_talkOf_92 _ _ _ _ _ ?_
    simp (maxSteps := 1000000) (disch := omega) only [gx_R_talkOf_92, slk, List.map_cons, List.map_nil, List.sum_cons, List.sum_nil, vc_i, vc_r, vc_n, vc_l, vc_o, Nat.add_zero, kO_e, kA_e, hdO_a, eq_self, blk, stp, lg, ls0, lk, ls1, ls2, kI_i, kL_l, kR_r, kR_n, kR_o, s1I_i, s2I_i, s1L_l, s2L_l, s1R_r, s1R_n, s1R_o, s1A_a, cmpc, popn, swt, rf_s, rf_n, cat_i, cat_r, cat_n, cat_l, true_and, and_true, List.length_cons, List.length_nil, Nat.zero_add, Int.reduceToNat, Nat.reduceAdd, Nat.reduceDiv, Nat.reduceMod, Nat.reduceMul, Nat.reduceSub, Nat.reduceLeDiff, Nat.reduceLT, Nat.reduceEqDiff, ↓reduceIte, r_gr_wi, r_gl_wi, r_gk_wi, r_gn_wi, r_wi_eq, r_wi_ne, r_wi_nj, r_gi_wr, r_gl_wr, r_gk_wr, r_gn_wr, r_gr_wa, r_gl_wa, r_gk_wa, r_gn_wa, u_lt, u_le, u_gt, u_ge, u_lt0, u_le0, u_gt0, u_ge0, Classical.not_not, not_true_eq_false, not_false_eq_true, oi_n, oi_m, n_dec, nI_add, pk_mul, n_sub, n_eq, n_le, n_lt, n_eq0, n_lt0, n_le0, n_0lt, n_0le, n_eqm, m_eqn, n_ltm, n_and, n_or, n_xor, n_shl, n_shr, tb1, tb0, bP_1, bP_0, bP_n0, ix_n, inb_n, u_eq, u_eqm, eD.1, T3.1.2]
    have F4 : Fx [] [141, 142] H3 (wi (wi H3 141 m (nI (tkE s m).2)) 142 m (nI (tkD s m).2.1)) := ((Fx.refl _ _ _).wi _ rfl).wi _ rfl
    refine ⟨by rw [r_R_talkOf]; trivial, rfl, ((F.trans (Fw.f0 rfl rfl)).trans (F3.f0 rfl rfl)).trans (F4.f0 rfl rfl), F4.rw W3 rfl, F4.se S3 rfl (fun _ => rfl), F4.sk K3 rfl, EO_st E3 tb.2.2 dok.2.2.1, ⟨(F4.2 _ _ rfl).trans eD.1, (F4.2 _ _ rfl).trans eD.2⟩, F4.ft.tk T3 rfl rfl, F4.ft.lks L3 rfl (fun _ => rfl)⟩
  have loop : ∀ n k H, k + n = m → FzR h H → RH H (unW s) → SE H (unW s) → SK H → EO H (erS (unW s) k).1 (erS (unW s) k).2 k → P 21 [some (.ref 107), some (.int (nI m)), some (.int (nI (s 107 61))), some (.int (nI k))] [] H 0 0 := by
    intro n
    induction n using Nat.strongRecOn with
    | _ n ih =>
      intro k H hk F WH SH KH EH
      refine hP.1 _ _ sx_R_talkOf_21 _ _ _ _ _ ?_
      simp (maxSteps := 1000000) (disch := omega) only [gx_R_talkOf_21, slk, List.map_cons, List.map_nil, List.sum_cons, List.sum_nil, vc_i, vc_r, vc_n, vc_l, vc_o, Nat.add_zero, kO_e, kA_e, hdO_a, eq_self, blk, stp, lg, ls0, lk, ls1, ls2, kI_i, kL_l, kR_r, kR_n, kR_o, s1I_i, s2I_i, s1L_l, s2L_l, s1R_r, s1R_n, s1R_o, s1A_a, cmpc, popn, swt, rf_s, rf_n, cat_i, cat_r, cat_n, cat_l, true_and, and_true, List.length_cons, List.length_nil, Nat.zero_add, Int.reduceToNat, Nat.reduceAdd, Nat.reduceDiv, Nat.reduceMod, Nat.reduceMul, Nat.reduceSub, Nat.reduceLeDiff, Nat.reduceLT, Nat.reduceEqDiff, ↓reduceIte, r_gr_wi, r_gl_wi, r_gk_wi, r_gn_wi, r_wi_eq, r_wi_ne, r_wi_nj, r_gi_wr, r_gl_wr, r_gk_wr, r_gn_wr, r_gr_wa, r_gl_wa, r_gk_wa, r_gn_wa, u_lt, u_le, u_gt, u_ge, u_lt0, u_le0, u_gt0, u_ge0, Classical.not_not, not_true_eq_false, not_false_eq_true, oi_n, oi_m, n_dec, nI_add, pk_mul, n_sub, n_eq, n_le, n_lt, n_eq0, n_lt0, n_le0, n_0lt, n_0le, n_eqm, m_eqn, n_ltm, n_and, n_or, n_xor, n_shl, n_shr, tb1, tb0, bP_1, bP_0, bP_n0, ix_n, inb_n, u_eq, u_eqm]
      refine ⟨fun hc => ?_, fun hc => ?_⟩
      · have e : k = m := by omega
        subst e
        exact last H F WH SH KH EH
      · have hk2 : k < unW s 107 19 := (by omega : k < s 107 19)
        refine hP.1 _ _ sx_R_talkOf_26 _ _ _ _ _ ?_
        simp (maxSteps := 1000000) (disch := omega) only [gx_R_talkOf_26, slk, List.map_cons, List.map_nil, List.sum_cons, List.sum_nil, vc_i, vc_r, vc_n, vc_l, vc_o, Nat.add_zero, kO_e, kA_e, hdO_a, eq_self, blk, stp, lg, ls0, lk, ls1, ls2, kI_i, kL_l, kR_r, kR_n, kR_o, s1I_i, s2I_i, s1L_l, s2L_l, s1R_r, s1R_n, s1R_o, s1A_a, cmpc, popn, swt, rf_s, rf_n, cat_i, cat_r, cat_n, cat_l, true_and, and_true, List.length_cons, List.length_nil, Nat.zero_add, Int.reduceToNat, Nat.reduceAdd, Nat.reduceDiv, Nat.reduceMod, Nat.reduceMul, Nat.reduceSub, Nat.reduceLeDiff, Nat.reduceLT, Nat.reduceEqDiff, ↓reduceIte, r_gr_wi, r_gl_wi, r_gk_wi, r_gn_wi, r_wi_eq, r_wi_ne, r_wi_nj, r_gi_wr, r_gl_wr, r_gk_wr, r_gn_wr, r_gr_wa, r_gl_wa, r_gk_wa, r_gn_wa, u_lt, u_le, u_gt, u_ge, u_lt0, u_le0, u_gt0, u_ge0, Classical.not_not, not_true_eq_false, not_false_eq_true, oi_n, oi_m, n_dec, nI_add, pk_mul, n_sub, n_eq, n_le, n_lt, n_eq0, n_lt0, n_le0, n_0lt, n_0le, n_eqm, m_eqn, n_ltm, n_and, n_or, n_xor, n_shl, n_shr, tb1, tb0, bP_1, bP_0, bP_n0, ix_n, inb_n, u_eq, u_eqm, k107 WH.1]
        obtain ⟨ls, L0⟩ := LKs_ex H
        refine ⟨_, _, _, c_R_goThroughTalk WH KH TT SH EH L0 hk2 (by decide : (4294967295 : Nat) < 4294967296) (fun q => absurd q (by decide : ¬ (4294967295 : Nat) < 8)), ⟨by omega, by omega⟩, ?_⟩
        rintro r H3 ⟨rfl, F3, eD, T3, L3⟩
        have W3 := F3.rw WH rfl
        have S3 := F3.se SH rfl (fun _ => rfl)
        have K3 := F3.sk KH rfl
        have E3 := F3.eo EH (fun _ => rfl) (fun _ => rfl)
        rw [tlS_core ls] at eD T3
        rw [(dE_core ls _).1, (dE_core ls _).2.1] at T3
        have tb := tlS_b (ed := (erS (unW s) k).1) (rs := (erS (unW s) k).2) (m := k) (ls := []) WH
        have dok := dE_ok (ed := (erS (unW s) k).1) (rs := (erS (unW s) k).2) (ls := []) WH hk2 _ tb.1
        refine hP.1 _ _ sx_R_talkOf_31 _ _ _ _ _ ?_
        simp (maxSteps := 1000000) (disch := omega) only [gx_R_talkOf_31, slk, List.map_cons, List.map_nil, List.sum_cons, List.sum_nil, vc_i, vc_r, vc_n, vc_l, vc_o, Nat.add_zero, kO_e, kA_e, hdO_a, eq_self, blk, stp, lg, ls0, lk, ls1, ls2, kI_i, kL_l, kR_r, kR_n, kR_o, s1I_i, s2I_i, s1L_l, s2L_l, s1R_r, s1R_n, s1R_o, s1A_a, cmpc, popn, swt, rf_s, rf_n, cat_i, cat_r, cat_n, cat_l, true_and, and_true, List.length_cons, List.length_nil, Nat.zero_add, Int.reduceToNat, Nat.reduceAdd, Nat.reduceDiv, Nat.reduceMod, Nat.reduceMul, Nat.reduceSub, Nat.reduceLeDiff, Nat.reduceLT, Nat.reduceEqDiff, ↓reduceIte, r_gr_wi, r_gl_wi, r_gk_wi, r_gn_wi, r_wi_eq, r_wi_ne, r_wi_nj, r_gi_wr, r_gl_wr, r_gk_wr, r_gn_wr, r_gr_wa, r_gl_wa, r_gk_wa, r_gn_wa, u_lt, u_le, u_gt, u_ge, u_lt0, u_le0, u_gt0, u_ge0, Classical.not_not, not_true_eq_false, not_false_eq_true, oi_n, oi_m, n_dec, nI_add, pk_mul, n_sub, n_eq, n_le, n_lt, n_eq0, n_lt0, n_le0, n_0lt, n_0le, n_eqm, m_eqn, n_ltm, n_and, n_or, n_xor, n_shl, n_shr, tb1, tb0, bP_1, bP_0, bP_n0, ix_n, inb_n, u_eq, u_eqm, k107 W3.1, f107_57 W3.1, k141 W3.1, eD.1, T3.1.2]
        refine hP.1 _ _ sx_R_talkOf_41 _ _ _ _ _ ?_
        simp (maxSteps := 1000000) (disch := omega) only [gx_R_talkOf_41, slk, List.map_cons, List.map_nil, List.sum_cons, List.sum_nil, vc_i, vc_r, vc_n, vc_l, vc_o, Nat.add_zero, kO_e, kA_e, hdO_a, eq_self, blk, stp, lg, ls0, lk, ls1, ls2, kI_i, kL_l, kR_r, kR_n, kR_o, s1I_i, s2I_i, s1L_l, s2L_l, s1R_r, s1R_n, s1R_o, s1A_a, cmpc, popn, swt, rf_s, rf_n, cat_i, cat_r, cat_n, cat_l, true_and, and_true, List.length_cons, List.length_nil, Nat.zero_add, Int.reduceToNat, Nat.reduceAdd, Nat.reduceDiv, Nat.reduceMod, Nat.reduceMul, Nat.reduceSub, Nat.reduceLeDiff, Nat.reduceLT, Nat.reduceEqDiff, ↓reduceIte, r_gr_wi, r_gl_wi, r_gk_wi, r_gn_wi, r_wi_eq, r_wi_ne, r_wi_nj, r_gi_wr, r_gl_wr, r_gk_wr, r_gn_wr, r_gr_wa, r_gl_wa, r_gk_wa, r_gn_wa, u_lt, u_le, u_gt, u_ge, u_lt0, u_le0, u_gt0, u_ge0, Classical.not_not, not_true_eq_false, not_false_eq_true, oi_n, oi_m, n_dec, nI_add, pk_mul, n_sub, n_eq, n_le, n_lt, n_eq0, n_lt0, n_le0, n_0lt, n_0le, n_eqm, m_eqn, n_ltm, n_and, n_or, n_xor, n_shl, n_shr, tb1, tb0, bP_1, bP_0, bP_n0, ix_n, inb_n, u_eq, u_eqm, k107 W3.1, f107_58 W3.1, k142 W3.1, eD.1, T3.1.2]
        refine hP.1 _ _ sx_R_talkOf_51 _ _ _ _ _ ?_
        simp (maxSteps := 1000000) (disch := omega) only [gx_R_talkOf_51, slk, List.map_cons, List.map_nil, List.sum_cons, List.sum_nil, vc_i, vc_r, vc_n, vc_l, vc_o, Nat.add_zero, kO_e, kA_e, hdO_a, eq_self, blk, stp, lg, ls0, lk, ls1, ls2, kI_i, kL_l, kR_r, kR_n, kR_o, s1I_i, s2I_i, s1L_l, s2L_l, s1R_r, s1R_n, s1R_o, s1A_a, cmpc, popn, swt, rf_s, rf_n, cat_i, cat_r, cat_n, cat_l, true_and, and_true, List.length_cons, List.length_nil, Nat.zero_add, Int.reduceToNat, Nat.reduceAdd, Nat.reduceDiv, Nat.reduceMod, Nat.reduceMul, Nat.reduceSub, Nat.reduceLeDiff, Nat.reduceLT, Nat.reduceEqDiff, ↓reduceIte, r_gr_wi, r_gl_wi, r_gk_wi, r_gn_wi, r_wi_eq, r_wi_ne, r_wi_nj, r_gi_wr, r_gl_wr, r_gk_wr, r_gn_wr, r_gr_wa, r_gl_wa, r_gk_wa, r_gn_wa, u_lt, u_le, u_gt, u_ge, u_lt0, u_le0, u_gt0, u_ge0, Classical.not_not, not_true_eq_false, not_false_eq_true, oi_n, oi_m, n_dec, nI_add, pk_mul, n_sub, n_eq, n_le, n_lt, n_eq0, n_lt0, n_le0, n_0lt, n_0le, n_eqm, m_eqn, n_ltm, n_and, n_or, n_xor, n_shl, n_shr, tb1, tb0, bP_1, bP_0, bP_n0, ix_n, inb_n, u_eq, u_eqm, eD.1, T3.1.2]
        have F4 : Fx [] [141, 142] H3 (wi (wi H3 141 k (nI (tlS (unW s) (erS (unW s) k).1 (erS (unW s) k).2 k []).2)) 142 k (nI (dE (unW s) (erS (unW s) k).1 (erS (unW s) k).2 k [] (tlS (unW s) (erS (unW s) k).1 (erS (unW s) k).2 k []).1).2.1)) := ((Fx.refl _ _ _).wi _ rfl).wi _ rfl
        exact ih (n - 1) (by omega) (k + 1) _ (by omega) ((F.trans (F3.f0 rfl rfl)).trans (F4.f0 rfl rfl)) (F4.rw W3 rfl) (F4.se S3 rfl (fun _ => rfl)) (F4.sk K3 rfl) (EO_step E3 rfl rfl tb.2.2 dok.2.2.1)
  refine hP.1 _ _ sx_R_talkOf_0 _ _ _ _ _ ?_
  simp (maxSteps := 1000000) (disch := omega) only [gx_R_talkOf_0, slk, List.map_cons, List.map_nil, List.sum_cons, List.sum_nil, vc_i, vc_r, vc_n, vc_l, vc_o, Nat.add_zero, kO_e, kA_e, hdO_a, eq_self, blk, stp, lg, ls0, lk, ls1, ls2, kI_i, kL_l, kR_r, kR_n, kR_o, s1I_i, s2I_i, s1L_l, s2L_l, s1R_r, s1R_n, s1R_o, s1A_a, cmpc, popn, swt, rf_s, rf_n, cat_i, cat_r, cat_n, cat_l, true_and, and_true, List.length_cons, List.length_nil, Nat.zero_add, Int.reduceToNat, Nat.reduceAdd, Nat.reduceDiv, Nat.reduceMod, Nat.reduceMul, Nat.reduceSub, Nat.reduceLeDiff, Nat.reduceLT, Nat.reduceEqDiff, ↓reduceIte, r_gr_wi, r_gl_wi, r_gk_wi, r_gn_wi, r_wi_eq, r_wi_ne, r_wi_nj, r_gi_wr, r_gl_wr, r_gk_wr, r_gn_wr, r_gr_wa, r_gl_wa, r_gk_wa, r_gn_wa, u_lt, u_le, u_gt, u_ge, u_lt0, u_le0, u_gt0, u_ge0, Classical.not_not, not_true_eq_false, not_false_eq_true, oi_n, oi_m, n_dec, nI_add, pk_mul, n_sub, n_eq, n_le, n_lt, n_eq0, n_lt0, n_le0, n_0lt, n_0le, n_eqm, m_eqn, n_ltm, n_and, n_or, n_xor, n_shl, n_shr, tb1, tb0, bP_1, bP_0, bP_n0, ix_n, inb_n, u_eq, u_eqm, k107 W.1]
  refine wcv (c_R_sit W) ⟨by omega, by omega⟩ ?_
  simp (maxSteps := 1000000) (disch := omega) only [slk, List.map_cons, List.map_nil, List.sum_cons, List.sum_nil, vc_i, vc_r, vc_n, vc_l, vc_o, Nat.add_zero, kO_e, kA_e, hdO_a, eq_self, blk, stp, lg, ls0, lk, ls1, ls2, kI_i, kL_l, kR_r, kR_n, kR_o, s1I_i, s2I_i, s1L_l, s2L_l, s1R_r, s1R_n, s1R_o, s1A_a, cmpc, popn, swt, rf_s, rf_n, cat_i, cat_r, cat_n, cat_l, true_and, and_true, List.length_cons, List.length_nil, Nat.zero_add, Int.reduceToNat, Nat.reduceAdd, Nat.reduceDiv, Nat.reduceMod, Nat.reduceMul, Nat.reduceSub, Nat.reduceLeDiff, Nat.reduceLT, Nat.reduceEqDiff, ↓reduceIte, r_gr_wi, r_gl_wi, r_gk_wi, r_gn_wi, r_wi_eq, r_wi_ne, r_wi_nj, r_gi_wr, r_gl_wr, r_gk_wr, r_gn_wr, r_gr_wa, r_gl_wa, r_gk_wa, r_gn_wa, u_lt, u_le, u_gt, u_ge, u_lt0, u_le0, u_gt0, u_ge0, Classical.not_not, not_true_eq_false, not_false_eq_true, oi_n, oi_m, n_dec, nI_add, pk_mul, n_sub, n_eq, n_le, n_lt, n_eq0, n_lt0, n_le0, n_0lt, n_0le, n_eqm, m_eqn, n_ltm, n_and, n_or, n_xor, n_shl, n_shr, tb1, tb0, bP_1, bP_0, bP_n0, ix_n, inb_n, u_eq, u_eqm, k107 W.1]
  have W0 : RH (hL h (seatsL s)) s := (hL_fx h _).rw W rfl
  have S0 : SE (hL h (seatsL s)) s := se_hL h s
  have K0 := (hL_fx h (seatsL s)).sk K rfl
  refine hP.1 _ _ sx_R_talkOf_4 _ _ _ _ _ ?_
  simp (maxSteps := 1000000) (disch := omega) only [gx_R_talkOf_4, slk, List.map_cons, List.map_nil, List.sum_cons, List.sum_nil, vc_i, vc_r, vc_n, vc_l, vc_o, Nat.add_zero, kO_e, kA_e, hdO_a, eq_self, blk, stp, lg, ls0, lk, ls1, ls2, kI_i, kL_l, kR_r, kR_n, kR_o, s1I_i, s2I_i, s1L_l, s2L_l, s1R_r, s1R_n, s1R_o, s1A_a, cmpc, popn, swt, rf_s, rf_n, cat_i, cat_r, cat_n, cat_l, true_and, and_true, List.length_cons, List.length_nil, Nat.zero_add, Int.reduceToNat, Nat.reduceAdd, Nat.reduceDiv, Nat.reduceMod, Nat.reduceMul, Nat.reduceSub, Nat.reduceLeDiff, Nat.reduceLT, Nat.reduceEqDiff, ↓reduceIte, r_gr_wi, r_gl_wi, r_gk_wi, r_gn_wi, r_wi_eq, r_wi_ne, r_wi_nj, r_gi_wr, r_gl_wr, r_gk_wr, r_gn_wr, r_gr_wa, r_gl_wa, r_gk_wa, r_gn_wa, u_lt, u_le, u_gt, u_ge, u_lt0, u_le0, u_gt0, u_ge0, Classical.not_not, not_true_eq_false, not_false_eq_true, oi_n, oi_m, n_dec, nI_add, pk_mul, n_sub, n_eq, n_le, n_lt, n_eq0, n_lt0, n_le0, n_0lt, n_0le, n_eqm, m_eqn, n_ltm, n_and, n_or, n_xor, n_shl, n_shr, tb1, tb0, bP_1, bP_0, bP_n0, ix_n, inb_n, u_eq, u_eqm, k107 W0.1]
  refine hP.1 _ _ sx_R_talkOf_9 _ _ _ _ _ ?_
  simp (maxSteps := 1000000) (disch := omega) only [gx_R_talkOf_9, slk, List.map_cons, List.map_nil, List.sum_cons, List.sum_nil, vc_i, vc_r, vc_n, vc_l, vc_o, Nat.add_zero, kO_e, kA_e, hdO_a, eq_self, blk, stp, lg, ls0, lk, ls1, ls2, kI_i, kL_l, kR_r, kR_n, kR_o, s1I_i, s2I_i, s1L_l, s2L_l, s1R_r, s1R_n, s1R_o, s1A_a, cmpc, popn, swt, rf_s, rf_n, cat_i, cat_r, cat_n, cat_l, true_and, and_true, List.length_cons, List.length_nil, Nat.zero_add, Int.reduceToNat, Nat.reduceAdd, Nat.reduceDiv, Nat.reduceMod, Nat.reduceMul, Nat.reduceSub, Nat.reduceLeDiff, Nat.reduceLT, Nat.reduceEqDiff, ↓reduceIte, r_gr_wi, r_gl_wi, r_gk_wi, r_gn_wi, r_wi_eq, r_wi_ne, r_wi_nj, r_gi_wr, r_gl_wr, r_gk_wr, r_gn_wr, r_gr_wa, r_gl_wa, r_gk_wa, r_gn_wa, u_lt, u_le, u_gt, u_ge, u_lt0, u_le0, u_gt0, u_ge0, Classical.not_not, not_true_eq_false, not_false_eq_true, oi_n, oi_m, n_dec, nI_add, pk_mul, n_sub, n_eq, n_le, n_lt, n_eq0, n_lt0, n_le0, n_0lt, n_0le, n_eqm, m_eqn, n_ltm, n_and, n_or, n_xor, n_shl, n_shr, tb1, tb0, bP_1, bP_0, bP_n0, ix_n, inb_n, u_eq, u_eqm, k107 W0.1, q107_61 W0]
  refine hP.1 _ _ sx_R_talkOf_19 _ _ _ _ _ ?_
  simp (maxSteps := 1000000) (disch := omega) only [gx_R_talkOf_19, slk, List.map_cons, List.map_nil, List.sum_cons, List.sum_nil, vc_i, vc_r, vc_n, vc_l, vc_o, Nat.add_zero, kO_e, kA_e, hdO_a, eq_self, blk, stp, lg, ls0, lk, ls1, ls2, kI_i, kL_l, kR_r, kR_n, kR_o, s1I_i, s2I_i, s1L_l, s2L_l, s1R_r, s1R_n, s1R_o, s1A_a, cmpc, popn, swt, rf_s, rf_n, cat_i, cat_r, cat_n, cat_l, true_and, and_true, List.length_cons, List.length_nil, Nat.zero_add, Int.reduceToNat, Nat.reduceAdd, Nat.reduceDiv, Nat.reduceMod, Nat.reduceMul, Nat.reduceSub, Nat.reduceLeDiff, Nat.reduceLT, Nat.reduceEqDiff, ↓reduceIte, r_gr_wi, r_gl_wi, r_gk_wi, r_gn_wi, r_wi_eq, r_wi_ne, r_wi_nj, r_gi_wr, r_gl_wr, r_gk_wr, r_gn_wr, r_gr_wa, r_gl_wa, r_gk_wa, r_gn_wa, u_lt, u_le, u_gt, u_ge, u_lt0, u_le0, u_gt0, u_ge0, Classical.not_not, not_true_eq_false, not_false_eq_true, oi_n, oi_m, n_dec, nI_add, pk_mul, n_sub, n_eq, n_le, n_lt, n_eq0, n_lt0, n_le0, n_0lt, n_0le, n_eqm, m_eqn, n_ltm, n_and, n_or, n_xor, n_shl, n_shr, tb1, tb0, bP_1, bP_0, bP_n0, ix_n, inb_n, u_eq, u_eqm]
  have W1 : RH (wi (hL h (seatsL s)) 107 22 (nI 0)) s := rw_sm W0 ((q107_22 W0).trans (by rw [h22]))
  have Fw : Fx [22, 61] [] (hL h (seatsL s)) (wi (wi (hL h (seatsL s)) 107 22 (nI 0)) 107 61 (-1)) := ((Fx.refl _ _ _).wi _ rfl).wi _ rfl
  have W2 : RH (wi (wi (hL h (seatsL s)) 107 22 (nI 0)) 107 61 (-1)) (unW s) := ⟨Fw.lay W0.1, rc_setm W1.2.1 (by decide), W.2.2⟩
  exact loop m 0 _ (Nat.zero_add _) (((hL_fx h _).f0 rfl rfl).trans (Fw.f0 rfl rfl)) W2 (Fw.se S0 rfl (fun _ => rfl)) (Fw.sk K0 rfl) (fun j hj => absurd hj (Nat.not_lt_zero _))
end
