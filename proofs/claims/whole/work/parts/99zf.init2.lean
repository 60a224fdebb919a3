/-! ===== the class's beginning: its parts ===== -/
theorem n_Tp_init : mN 234 = 1 := rfl
theorem l_Tp_init : mL 234 = 1 := rfl
theorem r_Tp_init : mR 234 = none := rfl
theorem n_Re_init : mN 191 = 2 := rfl
theorem l_Re_init : mL 191 = 2 := rfl
theorem r_Re_init : mR 191 = none := rfl
theorem n_Sc_init : mN 209 = 1 := rfl
theorem l_Sc_init : mL 209 = 1 := rfl
theorem r_Sc_init : mR 209 = none := rfl
theorem n_Ta_init : mN 214 = 4 := rfl
theorem l_Ta_init : mL 214 = 4 := rfl
theorem r_Ta_init : mR 214 = none := rfl
theorem n_Pl_init : mN 187 = 2 := rfl
theorem l_Pl_init : mL 187 = 2 := rfl
theorem r_Pl_init : mR 187 = none := rfl
theorem n_Co_init : mN 156 = 2 := rfl
theorem l_Co_init : mL 156 = 2 := rfl
theorem r_Co_init : mR 156 = none := rfl
theorem n_Gf_init : mN 166 = 2 := rfl
theorem l_Gf_init : mL 166 = 2 := rfl
theorem r_Gf_init : mR 166 = none := rfl
theorem n_As_init : mN 146 = 1 := rfl
theorem l_As_init : mL 146 = 1 := rfl
theorem r_As_init : mR 146 = none := rfl
/-- an object o of a class k while it is made: i arrays stand behind it -/
def RIo (o k : Nat) (h H : AH) (i : Nat) (KS : List (Nat × (Nat × Nat))) (RL : List (Nat × Nat)) (g7 : Nat → Int32) : Prop :=
  gn H = o + 1 + i ∧ (∀ a, a < o → gk H a = gk h a ∧ gi H a = gi h a ∧ gr H a = gr h a ∧ gl H a = gl h a) ∧ gk H o = some (.inl k) ∧ gi H o = g7 ∧ (∀ a, o + 1 ≤ a → a < o + 1 + i → gi H a = fun _ => 0) ∧ (∀ q ∈ KS, gk H (o + 1 + q.1) = some (.inr q.2) ∧ q.1 < i) ∧ ∀ q ∈ RL, gr H o q.1 = some q.2
section
variable {o k i f v : Nat} {h H : AH} {KS : List (Nat × (Nat × Nat))} {RL : List (Nat × Nat)} {g7 : Nat → Int32}
theorem ro_wr (S : RIo o k h H i KS RL g7) (hf : RL.all (fun q => q.1 != f) = true) : RIo o k h (wr H o f (some v)) i KS ((f, v) :: RL) g7 := by
  obtain ⟨s1, s2, s3, s4, s5, s6, s7⟩ := S
  refine ⟨s1, fun a q => ⟨(s2 a q).1, (s2 a q).2.1, ?_, (s2 a q).2.2.2⟩, s3, s4, s5, s6, fun q hq => ?_⟩
  · funext j
    rw [r_wr_ne _ _ (by omega)]
    exact congrFun (s2 a q).2.2.1 j
  · rcases List.mem_cons.mp hq with e | hq2
    · rw [e]
      exact r_wr_eq _ _ _ _
    · have n := List.all_eq_true.mp hf q hq2
      rw [r_wr_ne _ _ (fun y => by rw [y.2] at n; simp at n)]
      exact s7 q hq2
theorem ro_al {kd : Nat × Nat} (S : RIo o k h H i KS RL g7) : RIo o k h (al H (.inr kd)) (i + 1) ((i, kd) :: KS) RL g7 := by
  obtain ⟨s1, s2, s3, s4, s5, s6, s7⟩ := S
  have R := r_al_k H (.inr kd) s1
  refine ⟨by rw [R.1]; omega, fun a q => ?_, (R.2.2.2.2 o (by omega)).1.trans s3, (R.2.2.2.2 o (by omega)).2.1.trans s4, fun a q1 q2 => ?_, fun q hq => ?_, fun q hq => by rw [(R.2.2.2.2 o (by omega)).2.2.1]; exact s7 q hq⟩
  · have r := R.2.2.2.2 a (by omega)
    have t := s2 a q
    exact ⟨r.1.trans t.1, r.2.1.trans t.2.1, r.2.2.1.trans t.2.2.1, r.2.2.2.trans t.2.2.2⟩
  · by_cases z : a = o + 1 + i
    · rw [z]
      exact R.2.2.1
    · rw [(R.2.2.2.2 a z).2.1]
      exact s5 a q1 (by omega)
  · rcases List.mem_cons.mp hq with e | hq2
    · rw [e]
      exact ⟨R.2.1, Nat.lt_succ_self _⟩
    · have t := s6 q hq2
      rw [(R.2.2.2.2 (o + 1 + q.1) (by omega)).1]
      exact ⟨t.1, by omega⟩
theorem ro_wi {v : Int32} (S : RIo o k h H i KS RL g7) : RIo o k h (wi H o f v) i KS RL (fun j => if j = f then v else g7 j) := by
  obtain ⟨s1, s2, s3, s4, s5, s6, s7⟩ := S
  refine ⟨s1, fun a q => ⟨(s2 a q).1, ?_, (s2 a q).2.2.1, (s2 a q).2.2.2⟩, s3, ?_, fun a q1 q2 => ?_, s6, s7⟩
  · funext j
    rw [r_wi_ne _ _ _ _ (by omega)]
    exact congrFun (s2 a q).2.1 j
  · funext j
    by_cases z : j = f
    · rw [z, r_wi_eq, if_pos rfl]
    · rw [r_wi_nj _ _ _ z, if_neg z]
      exact congrFun s4 j
  · funext j
    rw [r_wi_ne _ _ _ _ (by omega)]
    exact congrFun (s5 a q1 q2) j
end
def PRo (o k : Nat) (h : AH) (i : Nat) (KS : List (Nat × (Nat × Nat))) (RL : List (Nat × Nat)) (g7 : Nat → Int32) (r : Option (Option Value)) (H : AH) : Prop := r = some none ∧ RIo o k h H i KS RL g7
section
variable {h : AH} {d o : Nat}
def kTpI : List (Nat × (Nat × Nat)) := [(0, (0, 180))]
theorem c_Tp_init (hg : gn h = o + 1) (hk : gk h o = some (.inl 9)) (hi : gi h o = fun _ => 0) (ho : 20 ≤ o) : Mz (d + 1) 234 [.ref o] h 1 180 (PRo o 9 h 1 kTpI [(0, o + 1)] (fun _ => 0)) := by
  refine mz_in (l := [some (.ref o)]) mk_Tp_init n_Tp_init rfl l_Tp_init rfl (Nat.le_of_ble_eq_true rfl) fun P hP => ?_
  have S0 : RIo o 9 h h 0 [] [] (fun _ => 0) := ⟨hg, fun a q => ⟨rfl, rfl, rfl, rfl⟩, hk, hi, fun a q1 q2 => (by exfalso; omega), fun q hq => (by cases hq), fun q hq => (by cases hq)⟩
  have e0 : gn (h) = o + 1 := by rw [S0.1]
  have T0 := ro_al (kd := (0, 180)) S0
  have a0 : gk (al (h) (.inr (0, 180))) o = some (.inl 9) := T0.2.2.1
  have n0 : gn (al (h) (.inr (0, 180))) = o + 2 := by rw [T0.1]
  have S1 := ro_wr (f := 0) (v := o + 1) T0 rfl
  refine hP.1 _ _ s_Tp_init_0 _ _ _ _ _ ?_
  simp (maxSteps := 1000000) (disch := omega) only [g_Tp_init_0, slk, List.map_cons, List.map_nil, List.sum_cons, List.sum_nil, vc_i, vc_r, vc_n, vc_l, vc_o, Nat.add_zero, kO_e, kA_e, hdO_a, eq_self, blk, stp, lg, ls0, lk, ls1, ls2, kI_i, kL_l, kR_r, kR_n, kR_o, s1I_i, s2I_i, s1L_l, s2L_l, s1R_r, s1R_n, s1R_o, s1A_a, cmpc, popn, swt, rf_s, rf_n, cat_i, cat_r, cat_n, cat_l, true_and, and_true, List.length_cons, List.length_nil, Nat.zero_add, Int.reduceToNat, Nat.reduceAdd, Nat.reduceDiv, Nat.reduceMod, Nat.reduceMul, Nat.reduceSub, Nat.reduceLeDiff, Nat.reduceLT, Nat.reduceEqDiff, ↓reduceIte, r_gr_wi, r_gl_wi, r_gk_wi, r_gn_wi, r_wi_eq, r_wi_ne, r_wi_nj, r_gi_wr, r_gl_wr, r_gk_wr, r_gn_wr, r_gr_wa, r_gl_wa, r_gk_wa, r_gn_wa, aa_e, as_e, al_e, u_lt, u_le, u_gt, u_ge, u_lt0, u_le0, u_gt0, u_ge0, Classical.not_not, not_true_eq_false, not_false_eq_true, oi_n, oi_m, n_dec, nI_add, pk_mul, n_sub, n_eq, n_le, n_lt, n_eq0, n_lt0, n_le0, n_0lt, n_0le, n_eqm, m_eqn, n_ltm, n_and, n_or, n_xor, n_shl, n_shr, tb1, tb0, bP_1, bP_0, bP_n0, ix_n, inb_n, u_eq, u_eqm, ho, aty, e0, n0, a0, S0.2.2.1, S1.2.2.1]
  rw [r_Tp_init]
  exact ⟨trivial, rfl, S1⟩
def kReI : List (Nat × (Nat × Nat)) := [(1, (0, 164)), (0, (0, 160))]
theorem c_Re_init {r1 : Nat} (hg : gn h = o + 1) (hk : gk h o = some (.inl 6)) (hi : gi h o = fun _ => 0) (ho : 20 ≤ o) : Mz (d + 1) 191 [.ref o, .ref r1] h 2 324 (PRo o 6 h 2 kReI [(0, r1), (4, 0), (3, 0), (2, o + 2), (1, o + 1)] (fun _ => 0)) := by
  refine mz_in (l := [some (.ref o), some (.ref r1)]) mk_Re_init n_Re_init rfl l_Re_init rfl (Nat.le_of_ble_eq_true rfl) fun P hP => ?_
  have S0 : RIo o 6 h h 0 [] [] (fun _ => 0) := ⟨hg, fun a q => ⟨rfl, rfl, rfl, rfl⟩, hk, hi, fun a q1 q2 => (by exfalso; omega), fun q hq => (by cases hq), fun q hq => (by cases hq)⟩
  have e0 : gn (h) = o + 1 := by rw [S0.1]
  have T0 := ro_al (kd := (0, 160)) S0
  have a0 : gk (al (h) (.inr (0, 160))) o = some (.inl 6) := T0.2.2.1
  have n0 : gn (al (h) (.inr (0, 160))) = o + 2 := by rw [T0.1]
  have S1 := ro_wr (f := 1) (v := o + 1) T0 rfl
  refine hP.1 _ _ sx_Re_init_0 _ _ _ _ _ ?_
  simp (maxSteps := 1000000) (disch := omega) only [gx_Re_init_0, slk, List.map_cons, List.map_nil, List.sum_cons, List.sum_nil, vc_i, vc_r, vc_n, vc_l, vc_o, Nat.add_zero, kO_e, kA_e, hdO_a, eq_self, blk, stp, lg, ls0, lk, ls1, ls2, kI_i, kL_l, kR_r, kR_n, kR_o, s1I_i, s2I_i, s1L_l, s2L_l, s1R_r, s1R_n, s1R_o, s1A_a, cmpc, popn, swt, rf_s, rf_n, cat_i, cat_r, cat_n, cat_l, true_and, and_true, List.length_cons, List.length_nil, Nat.zero_add, Int.reduceToNat, Nat.reduceAdd, Nat.reduceDiv, Nat.reduceMod, Nat.reduceMul, Nat.reduceSub, Nat.reduceLeDiff, Nat.reduceLT, Nat.reduceEqDiff, ↓reduceIte, r_gr_wi, r_gl_wi, r_gk_wi, r_gn_wi, r_wi_eq, r_wi_ne, r_wi_nj, r_gi_wr, r_gl_wr, r_gk_wr, r_gn_wr, r_gr_wa, r_gl_wa, r_gk_wa, r_gn_wa, aa_e, as_e, al_e, u_lt, u_le, u_gt, u_ge, u_lt0, u_le0, u_gt0, u_ge0, Classical.not_not, not_true_eq_false, not_false_eq_true, oi_n, oi_m, n_dec, nI_add, pk_mul, n_sub, n_eq, n_le, n_lt, n_eq0, n_lt0, n_le0, n_0lt, n_0le, n_eqm, m_eqn, n_ltm, n_and, n_or, n_xor, n_shl, n_shr, tb1, tb0, bP_1, bP_0, bP_n0, ix_n, inb_n, u_eq, u_eqm, ho, aty, e0, n0, a0, S0.2.2.1]
  generalize wr (al (h) (.inr (0, 160))) o 1 (some (o + 1)) = H1 at S1 ⊢
  have e1 : gn (H1) = o + 2 := by rw [S1.1]
  have T1 := ro_al (kd := (0, 164)) S1
  have a1 : gk (al (H1) (.inr (0, 164))) o = some (.inl 6) := T1.2.2.1
  have n1 : gn (al (H1) (.inr (0, 164))) = o + 3 := by rw [T1.1]
  have S2 := ro_wr (f := 2) (v := o + 2) T1 rfl
  refine hP.1 _ _ sx_Re_init_13 _ _ _ _ _ ?_
  simp (maxSteps := 1000000) (disch := omega) only [gx_Re_init_13, slk, List.map_cons, List.map_nil, List.sum_cons, List.sum_nil, vc_i, vc_r, vc_n, vc_l, vc_o, Nat.add_zero, kO_e, kA_e, hdO_a, eq_self, blk, stp, lg, ls0, lk, ls1, ls2, kI_i, kL_l, kR_r, kR_n, kR_o, s1I_i, s2I_i, s1L_l, s2L_l, s1R_r, s1R_n, s1R_o, s1A_a, cmpc, popn, swt, rf_s, rf_n, cat_i, cat_r, cat_n, cat_l, true_and, and_true, List.length_cons, List.length_nil, Nat.zero_add, Int.reduceToNat, Nat.reduceAdd, Nat.reduceDiv, Nat.reduceMod, Nat.reduceMul, Nat.reduceSub, Nat.reduceLeDiff, Nat.reduceLT, Nat.reduceEqDiff, ↓reduceIte, r_gr_wi, r_gl_wi, r_gk_wi, r_gn_wi, r_wi_eq, r_wi_ne, r_wi_nj, r_gi_wr, r_gl_wr, r_gk_wr, r_gn_wr, r_gr_wa, r_gl_wa, r_gk_wa, r_gn_wa, aa_e, as_e, al_e, u_lt, u_le, u_gt, u_ge, u_lt0, u_le0, u_gt0, u_ge0, Classical.not_not, not_true_eq_false, not_false_eq_true, oi_n, oi_m, n_dec, nI_add, pk_mul, n_sub, n_eq, n_le, n_lt, n_eq0, n_lt0, n_le0, n_0lt, n_0le, n_eqm, m_eqn, n_ltm, n_and, n_or, n_xor, n_shl, n_shr, tb1, tb0, bP_1, bP_0, bP_n0, ix_n, inb_n, u_eq, u_eqm, ho, aty, e1, n1, a1, S1.2.2.1]
  generalize wr (al (H1) (.inr (0, 164))) o 2 (some (o + 2)) = H2 at S2 ⊢
  have S3 := ro_wr (f := 3) (v := 0) S2 rfl
  refine hP.1 _ _ sx_Re_init_22 _ _ _ _ _ ?_
  simp (maxSteps := 1000000) (disch := omega) only [gx_Re_init_22, slk, List.map_cons, List.map_nil, List.sum_cons, List.sum_nil, vc_i, vc_r, vc_n, vc_l, vc_o, Nat.add_zero, kO_e, kA_e, hdO_a, eq_self, blk, stp, lg, ls0, lk, ls1, ls2, kI_i, kL_l, kR_r, kR_n, kR_o, s1I_i, s2I_i, s1L_l, s2L_l, s1R_r, s1R_n, s1R_o, s1A_a, cmpc, popn, swt, rf_s, rf_n, cat_i, cat_r, cat_n, cat_l, true_and, and_true, List.length_cons, List.length_nil, Nat.zero_add, Int.reduceToNat, Nat.reduceAdd, Nat.reduceDiv, Nat.reduceMod, Nat.reduceMul, Nat.reduceSub, Nat.reduceLeDiff, Nat.reduceLT, Nat.reduceEqDiff, ↓reduceIte, r_gr_wi, r_gl_wi, r_gk_wi, r_gn_wi, r_wi_eq, r_wi_ne, r_wi_nj, r_gi_wr, r_gl_wr, r_gk_wr, r_gn_wr, r_gr_wa, r_gl_wa, r_gk_wa, r_gn_wa, aa_e, as_e, al_e, u_lt, u_le, u_gt, u_ge, u_lt0, u_le0, u_gt0, u_ge0, Classical.not_not, not_true_eq_false, not_false_eq_true, oi_n, oi_m, n_dec, nI_add, pk_mul, n_sub, n_eq, n_le, n_lt, n_eq0, n_lt0, n_le0, n_0lt, n_0le, n_eqm, m_eqn, n_ltm, n_and, n_or, n_xor, n_shl, n_shr, tb1, tb0, bP_1, bP_0, bP_n0, ix_n, inb_n, u_eq, u_eqm, ho, aty, S2.2.2.1]
  generalize wr (H2) o 3 (some 0) = H3 at S3 ⊢
  have S4 := ro_wr (f := 4) (v := 0) S3 rfl
  refine hP.1 _ _ sx_Re_init_28 _ _ _ _ _ ?_
  simp (maxSteps := 1000000) (disch := omega) only [gx_Re_init_28, slk, List.map_cons, List.map_nil, List.sum_cons, List.sum_nil, vc_i, vc_r, vc_n, vc_l, vc_o, Nat.add_zero, kO_e, kA_e, hdO_a, eq_self, blk, stp, lg, ls0, lk, ls1, ls2, kI_i, kL_l, kR_r, kR_n, kR_o, s1I_i, s2I_i, s1L_l, s2L_l, s1R_r, s1R_n, s1R_o, s1A_a, cmpc, popn, swt, rf_s, rf_n, cat_i, cat_r, cat_n, cat_l, true_and, and_true, List.length_cons, List.length_nil, Nat.zero_add, Int.reduceToNat, Nat.reduceAdd, Nat.reduceDiv, Nat.reduceMod, Nat.reduceMul, Nat.reduceSub, Nat.reduceLeDiff, Nat.reduceLT, Nat.reduceEqDiff, ↓reduceIte, r_gr_wi, r_gl_wi, r_gk_wi, r_gn_wi, r_wi_eq, r_wi_ne, r_wi_nj, r_gi_wr, r_gl_wr, r_gk_wr, r_gn_wr, r_gr_wa, r_gl_wa, r_gk_wa, r_gn_wa, aa_e, as_e, al_e, u_lt, u_le, u_gt, u_ge, u_lt0, u_le0, u_gt0, u_ge0, Classical.not_not, not_true_eq_false, not_false_eq_true, oi_n, oi_m, n_dec, nI_add, pk_mul, n_sub, n_eq, n_le, n_lt, n_eq0, n_lt0, n_le0, n_0lt, n_0le, n_eqm, m_eqn, n_ltm, n_and, n_or, n_xor, n_shl, n_shr, tb1, tb0, bP_1, bP_0, bP_n0, ix_n, inb_n, u_eq, u_eqm, ho, aty, S3.2.2.1]
  generalize wr (H3) o 4 (some 0) = H4 at S4 ⊢
  have S5 := ro_wr (f := 0) (v := r1) S4 rfl
  refine hP.1 _ _ sx_Re_init_34 _ _ _ _ _ ?_
  simp (maxSteps := 1000000) (disch := omega) only [gx_Re_init_34, slk, List.map_cons, List.map_nil, List.sum_cons, List.sum_nil, vc_i, vc_r, vc_n, vc_l, vc_o, Nat.add_zero, kO_e, kA_e, hdO_a, eq_self, blk, stp, lg, ls0, lk, ls1, ls2, kI_i, kL_l, kR_r, kR_n, kR_o, s1I_i, s2I_i, s1L_l, s2L_l, s1R_r, s1R_n, s1R_o, s1A_a, cmpc, popn, swt, rf_s, rf_n, cat_i, cat_r, cat_n, cat_l, true_and, and_true, List.length_cons, List.length_nil, Nat.zero_add, Int.reduceToNat, Nat.reduceAdd, Nat.reduceDiv, Nat.reduceMod, Nat.reduceMul, Nat.reduceSub, Nat.reduceLeDiff, Nat.reduceLT, Nat.reduceEqDiff, ↓reduceIte, r_gr_wi, r_gl_wi, r_gk_wi, r_gn_wi, r_wi_eq, r_wi_ne, r_wi_nj, r_gi_wr, r_gl_wr, r_gk_wr, r_gn_wr, r_gr_wa, r_gl_wa, r_gk_wa, r_gn_wa, aa_e, as_e, al_e, u_lt, u_le, u_gt, u_ge, u_lt0, u_le0, u_gt0, u_ge0, Classical.not_not, not_true_eq_false, not_false_eq_true, oi_n, oi_m, n_dec, nI_add, pk_mul, n_sub, n_eq, n_le, n_lt, n_eq0, n_lt0, n_le0, n_0lt, n_0le, n_eqm, m_eqn, n_ltm, n_and, n_or, n_xor, n_shl, n_shr, tb1, tb0, bP_1, bP_0, bP_n0, ix_n, inb_n, u_eq, u_eqm, ho, aty, S4.2.2.1]
  generalize wr (H4) o 0 (some r1) = H5 at S5 ⊢
  refine hP.1 _ _ sx_Re_init_39 _ _ _ _ _ ?_
  simp (maxSteps := 1000000) (disch := omega) only [gx_Re_init_39, slk, List.map_cons, List.map_nil, List.sum_cons, List.sum_nil, vc_i, vc_r, vc_n, vc_l, vc_o, Nat.add_zero, kO_e, kA_e, hdO_a, eq_self, blk, stp, lg, ls0, lk, ls1, ls2, kI_i, kL_l, kR_r, kR_n, kR_o, s1I_i, s2I_i, s1L_l, s2L_l, s1R_r, s1R_n, s1R_o, s1A_a, cmpc, popn, swt, rf_s, rf_n, cat_i, cat_r, cat_n, cat_l, true_and, and_true, List.length_cons, List.length_nil, Nat.zero_add, Int.reduceToNat, Nat.reduceAdd, Nat.reduceDiv, Nat.reduceMod, Nat.reduceMul, Nat.reduceSub, Nat.reduceLeDiff, Nat.reduceLT, Nat.reduceEqDiff, ↓reduceIte, r_gr_wi, r_gl_wi, r_gk_wi, r_gn_wi, r_wi_eq, r_wi_ne, r_wi_nj, r_gi_wr, r_gl_wr, r_gk_wr, r_gn_wr, r_gr_wa, r_gl_wa, r_gk_wa, r_gn_wa, aa_e, as_e, al_e, u_lt, u_le, u_gt, u_ge, u_lt0, u_le0, u_gt0, u_ge0, Classical.not_not, not_true_eq_false, not_false_eq_true, oi_n, oi_m, n_dec, nI_add, pk_mul, n_sub, n_eq, n_le, n_lt, n_eq0, n_lt0, n_le0, n_0lt, n_0le, n_eqm, m_eqn, n_ltm, n_and, n_or, n_xor, n_shl, n_shr, tb1, tb0, bP_1, bP_0, bP_n0, ix_n, inb_n, u_eq, u_eqm, ho, aty, S5.2.2.1]
  rw [r_Re_init]
  exact ⟨trivial, rfl, S5⟩
def kScI : List (Nat × (Nat × Nat)) := [(1, (0, 160)), (0, (0, 26))]
theorem c_Sc_init (hg : gn h = o + 1) (hk : gk h o = some (.inl 7)) (hi : gi h o = fun _ => 0) (ho : 20 ≤ o) : Mz (d + 1) 209 [.ref o] h 2 186 (PRo o 7 h 2 kScI [(1, o + 2), (0, o + 1)] (fun _ => 0)) := by
  refine mz_in (l := [some (.ref o)]) mk_Sc_init n_Sc_init rfl l_Sc_init rfl (Nat.le_of_ble_eq_true rfl) fun P hP => ?_
  have S0 : RIo o 7 h h 0 [] [] (fun _ => 0) := ⟨hg, fun a q => ⟨rfl, rfl, rfl, rfl⟩, hk, hi, fun a q1 q2 => (by exfalso; omega), fun q hq => (by cases hq), fun q hq => (by cases hq)⟩
  have e0 : gn (h) = o + 1 := by rw [S0.1]
  have T0 := ro_al (kd := (0, 26)) S0
  have a0 : gk (al (h) (.inr (0, 26))) o = some (.inl 7) := T0.2.2.1
  have n0 : gn (al (h) (.inr (0, 26))) = o + 2 := by rw [T0.1]
  have S1 := ro_wr (f := 0) (v := o + 1) T0 rfl
  have e1 : gn (wr (al (h) (.inr (0, 26))) o 0 (some (o + 1))) = o + 2 := by rw [S1.1]
  have T1 := ro_al (kd := (0, 160)) S1
  have a1 : gk (al (wr (al (h) (.inr (0, 26))) o 0 (some (o + 1))) (.inr (0, 160))) o = some (.inl 7) := T1.2.2.1
  have n1 : gn (al (wr (al (h) (.inr (0, 26))) o 0 (some (o + 1))) (.inr (0, 160))) = o + 3 := by rw [T1.1]
  have S2 := ro_wr (f := 1) (v := o + 2) T1 rfl
  refine hP.1 _ _ s_Sc_init_0 _ _ _ _ _ ?_
  simp (maxSteps := 1000000) (disch := omega) only [g_Sc_init_0, slk, List.map_cons, List.map_nil, List.sum_cons, List.sum_nil, vc_i, vc_r, vc_n, vc_l, vc_o, Nat.add_zero, kO_e, kA_e, hdO_a, eq_self, blk, stp, lg, ls0, lk, ls1, ls2, kI_i, kL_l, kR_r, kR_n, kR_o, s1I_i, s2I_i, s1L_l, s2L_l, s1R_r, s1R_n, s1R_o, s1A_a, cmpc, popn, swt, rf_s, rf_n, cat_i, cat_r, cat_n, cat_l, true_and, and_true, List.length_cons, List.length_nil, Nat.zero_add, Int.reduceToNat, Nat.reduceAdd, Nat.reduceDiv, Nat.reduceMod, Nat.reduceMul, Nat.reduceSub, Nat.reduceLeDiff, Nat.reduceLT, Nat.reduceEqDiff, ↓reduceIte, r_gr_wi, r_gl_wi, r_gk_wi, r_gn_wi, r_wi_eq, r_wi_ne, r_wi_nj, r_gi_wr, r_gl_wr, r_gk_wr, r_gn_wr, r_gr_wa, r_gl_wa, r_gk_wa, r_gn_wa, aa_e, as_e, al_e, u_lt, u_le, u_gt, u_ge, u_lt0, u_le0, u_gt0, u_ge0, Classical.not_not, not_true_eq_false, not_false_eq_true, oi_n, oi_m, n_dec, nI_add, pk_mul, n_sub, n_eq, n_le, n_lt, n_eq0, n_lt0, n_le0, n_0lt, n_0le, n_eqm, m_eqn, n_ltm, n_and, n_or, n_xor, n_shl, n_shr, tb1, tb0, bP_1, bP_0, bP_n0, ix_n, inb_n, u_eq, u_eqm, ho, aty, e0, n0, a0, S0.2.2.1, e1, n1, a1, S1.2.2.1, S2.2.2.1]
  rw [r_Sc_init]
  exact ⟨trivial, rfl, S2⟩
def kTaI : List (Nat × (Nat × Nat)) := [(6, (0, 31)), (5, (0, 31)), (4, (0, 8)), (3, (0, 8)), (2, (0, 8)), (1, (0, 1200)), (0, (0, 8))]
theorem c_Ta_init {r1 r2 r3 : Nat} (hg : gn h = o + 1) (hk : gk h o = some (.inl 8)) (hi : gi h o = fun _ => 0) (ho : 20 ≤ o) : Mz (d + 1) 214 [.ref o, .ref r1, .ref r2, .ref r3] h 7 1294 (PRo o 8 h 7 kTaI [(2, r3), (1, r2), (0, r1), (10, o + 7), (9, o + 6), (8, o + 5), (7, o + 4), (6, o + 3), (5, o + 2), (4, o + 1)] (fun j => if j = 17 then -1 else (fun _ => 0) j)) := by
  refine mz_in (l := [some (.ref o), some (.ref r1), some (.ref r2), some (.ref r3)]) mk_Ta_init n_Ta_init rfl l_Ta_init rfl (Nat.le_of_ble_eq_true rfl) fun P hP => ?_
  have S0 : RIo o 8 h h 0 [] [] (fun _ => 0) := ⟨hg, fun a q => ⟨rfl, rfl, rfl, rfl⟩, hk, hi, fun a q1 q2 => (by exfalso; omega), fun q hq => (by cases hq), fun q hq => (by cases hq)⟩
  have e0 : gn (h) = o + 1 := by rw [S0.1]
  have T0 := ro_al (kd := (0, 8)) S0
  have a0 : gk (al (h) (.inr (0, 8))) o = some (.inl 8) := T0.2.2.1
  have n0 : gn (al (h) (.inr (0, 8))) = o + 2 := by rw [T0.1]
  have S1 := ro_wr (f := 4) (v := o + 1) T0 rfl
  refine hP.1 _ _ sx_Ta_init_0 _ _ _ _ _ ?_
  simp (maxSteps := 1000000) (disch := omega) only [gx_Ta_init_0, slk, List.map_cons, List.map_nil, List.sum_cons, List.sum_nil, vc_i, vc_r, vc_n, vc_l, vc_o, Nat.add_zero, kO_e, kA_e, hdO_a, eq_self, blk, stp, lg, ls0, lk, ls1, ls2, kI_i, kL_l, kR_r, kR_n, kR_o, s1I_i, s2I_i, s1L_l, s2L_l, s1R_r, s1R_n, s1R_o, s1A_a, cmpc, popn, swt, rf_s, rf_n, cat_i, cat_r, cat_n, cat_l, true_and, and_true, List.length_cons, List.length_nil, Nat.zero_add, Int.reduceToNat, Nat.reduceAdd, Nat.reduceDiv, Nat.reduceMod, Nat.reduceMul, Nat.reduceSub, Nat.reduceLeDiff, Nat.reduceLT, Nat.reduceEqDiff, ↓reduceIte, r_gr_wi, r_gl_wi, r_gk_wi, r_gn_wi, r_wi_eq, r_wi_ne, r_wi_nj, r_gi_wr, r_gl_wr, r_gk_wr, r_gn_wr, r_gr_wa, r_gl_wa, r_gk_wa, r_gn_wa, aa_e, as_e, al_e, u_lt, u_le, u_gt, u_ge, u_lt0, u_le0, u_gt0, u_ge0, Classical.not_not, not_true_eq_false, not_false_eq_true, oi_n, oi_m, n_dec, nI_add, pk_mul, n_sub, n_eq, n_le, n_lt, n_eq0, n_lt0, n_le0, n_0lt, n_0le, n_eqm, m_eqn, n_ltm, n_and, n_or, n_xor, n_shl, n_shr, tb1, tb0, bP_1, bP_0, bP_n0, ix_n, inb_n, u_eq, u_eqm, ho, aty, e0, n0, a0, S0.2.2.1]
  generalize wr (al (h) (.inr (0, 8))) o 4 (some (o + 1)) = H1 at S1 ⊢
  have e1 : gn (H1) = o + 2 := by rw [S1.1]
  have T1 := ro_al (kd := (0, 1200)) S1
  have a1 : gk (al (H1) (.inr (0, 1200))) o = some (.inl 8) := T1.2.2.1
  have n1 : gn (al (H1) (.inr (0, 1200))) = o + 3 := by rw [T1.1]
  have S2 := ro_wr (f := 5) (v := o + 2) T1 rfl
  refine hP.1 _ _ sx_Ta_init_12 _ _ _ _ _ ?_
  simp (maxSteps := 1000000) (disch := omega) only [gx_Ta_init_12, slk, List.map_cons, List.map_nil, List.sum_cons, List.sum_nil, vc_i, vc_r, vc_n, vc_l, vc_o, Nat.add_zero, kO_e, kA_e, hdO_a, eq_self, blk, stp, lg, ls0, lk, ls1, ls2, kI_i, kL_l, kR_r, kR_n, kR_o, s1I_i, s2I_i, s1L_l, s2L_l, s1R_r, s1R_n, s1R_o, s1A_a, cmpc, popn, swt, rf_s, rf_n, cat_i, cat_r, cat_n, cat_l, true_and, and_true, List.length_cons, List.length_nil, Nat.zero_add, Int.reduceToNat, Nat.reduceAdd, Nat.reduceDiv, Nat.reduceMod, Nat.reduceMul, Nat.reduceSub, Nat.reduceLeDiff, Nat.reduceLT, Nat.reduceEqDiff, ↓reduceIte, r_gr_wi, r_gl_wi, r_gk_wi, r_gn_wi, r_wi_eq, r_wi_ne, r_wi_nj, r_gi_wr, r_gl_wr, r_gk_wr, r_gn_wr, r_gr_wa, r_gl_wa, r_gk_wa, r_gn_wa, aa_e, as_e, al_e, u_lt, u_le, u_gt, u_ge, u_lt0, u_le0, u_gt0, u_ge0, Classical.not_not, not_true_eq_false, not_false_eq_true, oi_n, oi_m, n_dec, nI_add, pk_mul, n_sub, n_eq, n_le, n_lt, n_eq0, n_lt0, n_le0, n_0lt, n_0le, n_eqm, m_eqn, n_ltm, n_and, n_or, n_xor, n_shl, n_shr, tb1, tb0, bP_1, bP_0, bP_n0, ix_n, inb_n, u_eq, u_eqm, ho, aty, e1, n1, a1, S1.2.2.1]
  generalize wr (al (H1) (.inr (0, 1200))) o 5 (some (o + 2)) = H2 at S2 ⊢
  have e2 : gn (H2) = o + 3 := by rw [S2.1]
  have T2 := ro_al (kd := (0, 8)) S2
  have a2 : gk (al (H2) (.inr (0, 8))) o = some (.inl 8) := T2.2.2.1
  have n2 : gn (al (H2) (.inr (0, 8))) = o + 4 := by rw [T2.1]
  have S3 := ro_wr (f := 6) (v := o + 3) T2 rfl
  refine hP.1 _ _ sx_Ta_init_21 _ _ _ _ _ ?_
  simp (maxSteps := 1000000) (disch := omega) only [gx_Ta_init_21, slk, List.map_cons, List.map_nil, List.sum_cons, List.sum_nil, vc_i, vc_r, vc_n, vc_l, vc_o, Nat.add_zero, kO_e, kA_e, hdO_a, eq_self, blk, stp, lg, ls0, lk, ls1, ls2, kI_i, kL_l, kR_r, kR_n, kR_o, s1I_i, s2I_i, s1L_l, s2L_l, s1R_r, s1R_n, s1R_o, s1A_a, cmpc, popn, swt, rf_s, rf_n, cat_i, cat_r, cat_n, cat_l, true_and, and_true, List.length_cons, List.length_nil, Nat.zero_add, Int.reduceToNat, Nat.reduceAdd, Nat.reduceDiv, Nat.reduceMod, Nat.reduceMul, Nat.reduceSub, Nat.reduceLeDiff, Nat.reduceLT, Nat.reduceEqDiff, ↓reduceIte, r_gr_wi, r_gl_wi, r_gk_wi, r_gn_wi, r_wi_eq, r_wi_ne, r_wi_nj, r_gi_wr, r_gl_wr, r_gk_wr, r_gn_wr, r_gr_wa, r_gl_wa, r_gk_wa, r_gn_wa, aa_e, as_e, al_e, u_lt, u_le, u_gt, u_ge, u_lt0, u_le0, u_gt0, u_ge0, Classical.not_not, not_true_eq_false, not_false_eq_true, oi_n, oi_m, n_dec, nI_add, pk_mul, n_sub, n_eq, n_le, n_lt, n_eq0, n_lt0, n_le0, n_0lt, n_0le, n_eqm, m_eqn, n_ltm, n_and, n_or, n_xor, n_shl, n_shr, tb1, tb0, bP_1, bP_0, bP_n0, ix_n, inb_n, u_eq, u_eqm, ho, aty, e2, n2, a2, S2.2.2.1]
  generalize wr (al (H2) (.inr (0, 8))) o 6 (some (o + 3)) = H3 at S3 ⊢
  have e3 : gn (H3) = o + 4 := by rw [S3.1]
  have T3 := ro_al (kd := (0, 8)) S3
  have a3 : gk (al (H3) (.inr (0, 8))) o = some (.inl 8) := T3.2.2.1
  have n3 : gn (al (H3) (.inr (0, 8))) = o + 5 := by rw [T3.1]
  have S4 := ro_wr (f := 7) (v := o + 4) T3 rfl
  refine hP.1 _ _ sx_Ta_init_29 _ _ _ _ _ ?_
  simp (maxSteps := 1000000) (disch := omega) only [gx_Ta_init_29, slk, List.map_cons, List.map_nil, List.sum_cons, List.sum_nil, vc_i, vc_r, vc_n, vc_l, vc_o, Nat.add_zero, kO_e, kA_e, hdO_a, eq_self, blk, stp, lg, ls0, lk, ls1, ls2, kI_i, kL_l, kR_r, kR_n, kR_o, s1I_i, s2I_i, s1L_l, s2L_l, s1R_r, s1R_n, s1R_o, s1A_a, cmpc, popn, swt, rf_s, rf_n, cat_i, cat_r, cat_n, cat_l, true_and, and_true, List.length_cons, List.length_nil, Nat.zero_add, Int.reduceToNat, Nat.reduceAdd, Nat.reduceDiv, Nat.reduceMod, Nat.reduceMul, Nat.reduceSub, Nat.reduceLeDiff, Nat.reduceLT, Nat.reduceEqDiff, ↓reduceIte, r_gr_wi, r_gl_wi, r_gk_wi, r_gn_wi, r_wi_eq, r_wi_ne, r_wi_nj, r_gi_wr, r_gl_wr, r_gk_wr, r_gn_wr, r_gr_wa, r_gl_wa, r_gk_wa, r_gn_wa, aa_e, as_e, al_e, u_lt, u_le, u_gt, u_ge, u_lt0, u_le0, u_gt0, u_ge0, Classical.not_not, not_true_eq_false, not_false_eq_true, oi_n, oi_m, n_dec, nI_add, pk_mul, n_sub, n_eq, n_le, n_lt, n_eq0, n_lt0, n_le0, n_0lt, n_0le, n_eqm, m_eqn, n_ltm, n_and, n_or, n_xor, n_shl, n_shr, tb1, tb0, bP_1, bP_0, bP_n0, ix_n, inb_n, u_eq, u_eqm, ho, aty, e3, n3, a3, S3.2.2.1]
  generalize wr (al (H3) (.inr (0, 8))) o 7 (some (o + 4)) = H4 at S4 ⊢
  have e4 : gn (H4) = o + 5 := by rw [S4.1]
  have T4 := ro_al (kd := (0, 8)) S4
  have a4 : gk (al (H4) (.inr (0, 8))) o = some (.inl 8) := T4.2.2.1
  have n4 : gn (al (H4) (.inr (0, 8))) = o + 6 := by rw [T4.1]
  have S5 := ro_wr (f := 8) (v := o + 5) T4 rfl
  refine hP.1 _ _ sx_Ta_init_37 _ _ _ _ _ ?_
  simp (maxSteps := 1000000) (disch := omega) only [gx_Ta_init_37, slk, List.map_cons, List.map_nil, List.sum_cons, List.sum_nil, vc_i, vc_r, vc_n, vc_l, vc_o, Nat.add_zero, kO_e, kA_e, hdO_a, eq_self, blk, stp, lg, ls0, lk, ls1, ls2, kI_i, kL_l, kR_r, kR_n, kR_o, s1I_i, s2I_i, s1L_l, s2L_l, s1R_r, s1R_n, s1R_o, s1A_a, cmpc, popn, swt, rf_s, rf_n, cat_i, cat_r, cat_n, cat_l, true_and, and_true, List.length_cons, List.length_nil, Nat.zero_add, Int.reduceToNat, Nat.reduceAdd, Nat.reduceDiv, Nat.reduceMod, Nat.reduceMul, Nat.reduceSub, Nat.reduceLeDiff, Nat.reduceLT, Nat.reduceEqDiff, ↓reduceIte, r_gr_wi, r_gl_wi, r_gk_wi, r_gn_wi, r_wi_eq, r_wi_ne, r_wi_nj, r_gi_wr, r_gl_wr, r_gk_wr, r_gn_wr, r_gr_wa, r_gl_wa, r_gk_wa, r_gn_wa, aa_e, as_e, al_e, u_lt, u_le, u_gt, u_ge, u_lt0, u_le0, u_gt0, u_ge0, Classical.not_not, not_true_eq_false, not_false_eq_true, oi_n, oi_m, n_dec, nI_add, pk_mul, n_sub, n_eq, n_le, n_lt, n_eq0, n_lt0, n_le0, n_0lt, n_0le, n_eqm, m_eqn, n_ltm, n_and, n_or, n_xor, n_shl, n_shr, tb1, tb0, bP_1, bP_0, bP_n0, ix_n, inb_n, u_eq, u_eqm, ho, aty, e4, n4, a4, S4.2.2.1]
  generalize wr (al (H4) (.inr (0, 8))) o 8 (some (o + 5)) = H5 at S5 ⊢
  have e5 : gn (H5) = o + 6 := by rw [S5.1]
  have T5 := ro_al (kd := (0, 31)) S5
  have a5 : gk (al (H5) (.inr (0, 31))) o = some (.inl 8) := T5.2.2.1
  have n5 : gn (al (H5) (.inr (0, 31))) = o + 7 := by rw [T5.1]
  have S6 := ro_wr (f := 9) (v := o + 6) T5 rfl
  refine hP.1 _ _ sx_Ta_init_45 _ _ _ _ _ ?_
  simp (maxSteps := 1000000) (disch := omega) only [gx_Ta_init_45, slk, List.map_cons, List.map_nil, List.sum_cons, List.sum_nil, vc_i, vc_r, vc_n, vc_l, vc_o, Nat.add_zero, kO_e, kA_e, hdO_a, eq_self, blk, stp, lg, ls0, lk, ls1, ls2, kI_i, kL_l, kR_r, kR_n, kR_o, s1I_i, s2I_i, s1L_l, s2L_l, s1R_r, s1R_n, s1R_o, s1A_a, cmpc, popn, swt, rf_s, rf_n, cat_i, cat_r, cat_n, cat_l, true_and, and_true, List.length_cons, List.length_nil, Nat.zero_add, Int.reduceToNat, Nat.reduceAdd, Nat.reduceDiv, Nat.reduceMod, Nat.reduceMul, Nat.reduceSub, Nat.reduceLeDiff, Nat.reduceLT, Nat.reduceEqDiff, ↓reduceIte, r_gr_wi, r_gl_wi, r_gk_wi, r_gn_wi, r_wi_eq, r_wi_ne, r_wi_nj, r_gi_wr, r_gl_wr, r_gk_wr, r_gn_wr, r_gr_wa, r_gl_wa, r_gk_wa, r_gn_wa, aa_e, as_e, al_e, u_lt, u_le, u_gt, u_ge, u_lt0, u_le0, u_gt0, u_ge0, Classical.not_not, not_true_eq_false, not_false_eq_true, oi_n, oi_m, n_dec, nI_add, pk_mul, n_sub, n_eq, n_le, n_lt, n_eq0, n_lt0, n_le0, n_0lt, n_0le, n_eqm, m_eqn, n_ltm, n_and, n_or, n_xor, n_shl, n_shr, tb1, tb0, bP_1, bP_0, bP_n0, ix_n, inb_n, u_eq, u_eqm, ho, aty, e5, n5, a5, S5.2.2.1]
  generalize wr (al (H5) (.inr (0, 31))) o 9 (some (o + 6)) = H6 at S6 ⊢
  have e6 : gn (H6) = o + 7 := by rw [S6.1]
  have T6 := ro_al (kd := (0, 31)) S6
  have a6 : gk (al (H6) (.inr (0, 31))) o = some (.inl 8) := T6.2.2.1
  have n6 : gn (al (H6) (.inr (0, 31))) = o + 8 := by rw [T6.1]
  have S7 := ro_wr (f := 10) (v := o + 7) T6 rfl
  refine hP.1 _ _ sx_Ta_init_53 _ _ _ _ _ ?_
  simp (maxSteps := 1000000) (disch := omega) only [gx_Ta_init_53, slk, List.map_cons, List.map_nil, List.sum_cons, List.sum_nil, vc_i, vc_r, vc_n, vc_l, vc_o, Nat.add_zero, kO_e, kA_e, hdO_a, eq_self, blk, stp, lg, ls0, lk, ls1, ls2, kI_i, kL_l, kR_r, kR_n, kR_o, s1I_i, s2I_i, s1L_l, s2L_l, s1R_r, s1R_n, s1R_o, s1A_a, cmpc, popn, swt, rf_s, rf_n, cat_i, cat_r, cat_n, cat_l, true_and, and_true, List.length_cons, List.length_nil, Nat.zero_add, Int.reduceToNat, Nat.reduceAdd, Nat.reduceDiv, Nat.reduceMod, Nat.reduceMul, Nat.reduceSub, Nat.reduceLeDiff, Nat.reduceLT, Nat.reduceEqDiff, ↓reduceIte, r_gr_wi, r_gl_wi, r_gk_wi, r_gn_wi, r_wi_eq, r_wi_ne, r_wi_nj, r_gi_wr, r_gl_wr, r_gk_wr, r_gn_wr, r_gr_wa, r_gl_wa, r_gk_wa, r_gn_wa, aa_e, as_e, al_e, u_lt, u_le, u_gt, u_ge, u_lt0, u_le0, u_gt0, u_ge0, Classical.not_not, not_true_eq_false, not_false_eq_true, oi_n, oi_m, n_dec, nI_add, pk_mul, n_sub, n_eq, n_le, n_lt, n_eq0, n_lt0, n_le0, n_0lt, n_0le, n_eqm, m_eqn, n_ltm, n_and, n_or, n_xor, n_shl, n_shr, tb1, tb0, bP_1, bP_0, bP_n0, ix_n, inb_n, u_eq, u_eqm, ho, aty, e6, n6, a6, S6.2.2.1]
  generalize wr (al (H6) (.inr (0, 31))) o 10 (some (o + 7)) = H7 at S7 ⊢
  have S8 := ro_wi (f := 17) (v := -1) S7
  refine hP.1 _ _ sx_Ta_init_61 _ _ _ _ _ ?_
  simp (maxSteps := 1000000) (disch := omega) only [gx_Ta_init_61, slk, List.map_cons, List.map_nil, List.sum_cons, List.sum_nil, vc_i, vc_r, vc_n, vc_l, vc_o, Nat.add_zero, kO_e, kA_e, hdO_a, eq_self, blk, stp, lg, ls0, lk, ls1, ls2, kI_i, kL_l, kR_r, kR_n, kR_o, s1I_i, s2I_i, s1L_l, s2L_l, s1R_r, s1R_n, s1R_o, s1A_a, cmpc, popn, swt, rf_s, rf_n, cat_i, cat_r, cat_n, cat_l, true_and, and_true, List.length_cons, List.length_nil, Nat.zero_add, Int.reduceToNat, Nat.reduceAdd, Nat.reduceDiv, Nat.reduceMod, Nat.reduceMul, Nat.reduceSub, Nat.reduceLeDiff, Nat.reduceLT, Nat.reduceEqDiff, ↓reduceIte, r_gr_wi, r_gl_wi, r_gk_wi, r_gn_wi, r_wi_eq, r_wi_ne, r_wi_nj, r_gi_wr, r_gl_wr, r_gk_wr, r_gn_wr, r_gr_wa, r_gl_wa, r_gk_wa, r_gn_wa, aa_e, as_e, al_e, u_lt, u_le, u_gt, u_ge, u_lt0, u_le0, u_gt0, u_ge0, Classical.not_not, not_true_eq_false, not_false_eq_true, oi_n, oi_m, n_dec, nI_add, pk_mul, n_sub, n_eq, n_le, n_lt, n_eq0, n_lt0, n_le0, n_0lt, n_0le, n_eqm, m_eqn, n_ltm, n_and, n_or, n_xor, n_shl, n_shr, tb1, tb0, bP_1, bP_0, bP_n0, ix_n, inb_n, u_eq, u_eqm, ho, aty, S7.2.2.1]
  generalize wi (H7) o 17 (-1) = H8 at S8 ⊢
  have S9 := ro_wr (f := 0) (v := r1) S8 rfl
  refine hP.1 _ _ sx_Ta_init_66 _ _ _ _ _ ?_
  simp (maxSteps := 1000000) (disch := omega) only [gx_Ta_init_66, slk, List.map_cons, List.map_nil, List.sum_cons, List.sum_nil, vc_i, vc_r, vc_n, vc_l, vc_o, Nat.add_zero, kO_e, kA_e, hdO_a, eq_self, blk, stp, lg, ls0, lk, ls1, ls2, kI_i, kL_l, kR_r, kR_n, kR_o, s1I_i, s2I_i, s1L_l, s2L_l, s1R_r, s1R_n, s1R_o, s1A_a, cmpc, popn, swt, rf_s, rf_n, cat_i, cat_r, cat_n, cat_l, true_and, and_true, List.length_cons, List.length_nil, Nat.zero_add, Int.reduceToNat, Nat.reduceAdd, Nat.reduceDiv, Nat.reduceMod, Nat.reduceMul, Nat.reduceSub, Nat.reduceLeDiff, Nat.reduceLT, Nat.reduceEqDiff, ↓reduceIte, r_gr_wi, r_gl_wi, r_gk_wi, r_gn_wi, r_wi_eq, r_wi_ne, r_wi_nj, r_gi_wr, r_gl_wr, r_gk_wr, r_gn_wr, r_gr_wa, r_gl_wa, r_gk_wa, r_gn_wa, aa_e, as_e, al_e, u_lt, u_le, u_gt, u_ge, u_lt0, u_le0, u_gt0, u_ge0, Classical.not_not, not_true_eq_false, not_false_eq_true, oi_n, oi_m, n_dec, nI_add, pk_mul, n_sub, n_eq, n_le, n_lt, n_eq0, n_lt0, n_le0, n_0lt, n_0le, n_eqm, m_eqn, n_ltm, n_and, n_or, n_xor, n_shl, n_shr, tb1, tb0, bP_1, bP_0, bP_n0, ix_n, inb_n, u_eq, u_eqm, ho, aty, S8.2.2.1]
  generalize wr (H8) o 0 (some r1) = H9 at S9 ⊢
  have S10 := ro_wr (f := 1) (v := r2) S9 rfl
  refine hP.1 _ _ sx_Ta_init_71 _ _ _ _ _ ?_
  simp (maxSteps := 1000000) (disch := omega) only [gx_Ta_init_71, slk, List.map_cons, List.map_nil, List.sum_cons, List.sum_nil, vc_i, vc_r, vc_n, vc_l, vc_o, Nat.add_zero, kO_e, kA_e, hdO_a, eq_self, blk, stp, lg, ls0, lk, ls1, ls2, kI_i, kL_l, kR_r, kR_n, kR_o, s1I_i, s2I_i, s1L_l, s2L_l, s1R_r, s1R_n, s1R_o, s1A_a, cmpc, popn, swt, rf_s, rf_n, cat_i, cat_r, cat_n, cat_l, true_and, and_true, List.length_cons, List.length_nil, Nat.zero_add, Int.reduceToNat, Nat.reduceAdd, Nat.reduceDiv, Nat.reduceMod, Nat.reduceMul, Nat.reduceSub, Nat.reduceLeDiff, Nat.reduceLT, Nat.reduceEqDiff, ↓reduceIte, r_gr_wi, r_gl_wi, r_gk_wi, r_gn_wi, r_wi_eq, r_wi_ne, r_wi_nj, r_gi_wr, r_gl_wr, r_gk_wr, r_gn_wr, r_gr_wa, r_gl_wa, r_gk_wa, r_gn_wa, aa_e, as_e, al_e, u_lt, u_le, u_gt, u_ge, u_lt0, u_le0, u_gt0, u_ge0, Classical.not_not, not_true_eq_false, not_false_eq_true, oi_n, oi_m, n_dec, nI_add, pk_mul, n_sub, n_eq, n_le, n_lt, n_eq0, n_lt0, n_le0, n_0lt, n_0le, n_eqm, m_eqn, n_ltm, n_and, n_or, n_xor, n_shl, n_shr, tb1, tb0, bP_1, bP_0, bP_n0, ix_n, inb_n, u_eq, u_eqm, ho, aty, S9.2.2.1]
  generalize wr (H9) o 1 (some r2) = H10 at S10 ⊢
  have S11 := ro_wr (f := 2) (v := r3) S10 rfl
  refine hP.1 _ _ sx_Ta_init_76 _ _ _ _ _ ?_
  simp (maxSteps := 1000000) (disch := omega) only [gx_Ta_init_76, slk, List.map_cons, List.map_nil, List.sum_cons, List.sum_nil, vc_i, vc_r, vc_n, vc_l, vc_o, Nat.add_zero, kO_e, kA_e, hdO_a, eq_self, blk, stp, lg, ls0, lk, ls1, ls2, kI_i, kL_l, kR_r, kR_n, kR_o, s1I_i, s2I_i, s1L_l, s2L_l, s1R_r, s1R_n, s1R_o, s1A_a, cmpc, popn, swt, rf_s, rf_n, cat_i, cat_r, cat_n, cat_l, true_and, and_true, List.length_cons, List.length_nil, Nat.zero_add, Int.reduceToNat, Nat.reduceAdd, Nat.reduceDiv, Nat.reduceMod, Nat.reduceMul, Nat.reduceSub, Nat.reduceLeDiff, Nat.reduceLT, Nat.reduceEqDiff, ↓reduceIte, r_gr_wi, r_gl_wi, r_gk_wi, r_gn_wi, r_wi_eq, r_wi_ne, r_wi_nj, r_gi_wr, r_gl_wr, r_gk_wr, r_gn_wr, r_gr_wa, r_gl_wa, r_gk_wa, r_gn_wa, aa_e, as_e, al_e, u_lt, u_le, u_gt, u_ge, u_lt0, u_le0, u_gt0, u_ge0, Classical.not_not, not_true_eq_false, not_false_eq_true, oi_n, oi_m, n_dec, nI_add, pk_mul, n_sub, n_eq, n_le, n_lt, n_eq0, n_lt0, n_le0, n_0lt, n_0le, n_eqm, m_eqn, n_ltm, n_and, n_or, n_xor, n_shl, n_shr, tb1, tb0, bP_1, bP_0, bP_n0, ix_n, inb_n, u_eq, u_eqm, ho, aty, S10.2.2.1]
  generalize wr (H10) o 2 (some r3) = H11 at S11 ⊢
  refine hP.1 _ _ sx_Ta_init_81 _ _ _ _ _ ?_
  simp (maxSteps := 1000000) (disch := omega) only [gx_Ta_init_81, slk, List.map_cons, List.map_nil, List.sum_cons, List.sum_nil, vc_i, vc_r, vc_n, vc_l, vc_o, Nat.add_zero, kO_e, kA_e, hdO_a, eq_self, blk, stp, lg, ls0, lk, ls1, ls2, kI_i, kL_l, kR_r, kR_n, kR_o, s1I_i, s2I_i, s1L_l, s2L_l, s1R_r, s1R_n, s1R_o, s1A_a, cmpc, popn, swt, rf_s, rf_n, cat_i, cat_r, cat_n, cat_l, true_and, and_true, List.length_cons, List.length_nil, Nat.zero_add, Int.reduceToNat, Nat.reduceAdd, Nat.reduceDiv, Nat.reduceMod, Nat.reduceMul, Nat.reduceSub, Nat.reduceLeDiff, Nat.reduceLT, Nat.reduceEqDiff, ↓reduceIte, r_gr_wi, r_gl_wi, r_gk_wi, r_gn_wi, r_wi_eq, r_wi_ne, r_wi_nj, r_gi_wr, r_gl_wr, r_gk_wr, r_gn_wr, r_gr_wa, r_gl_wa, r_gk_wa, r_gn_wa, aa_e, as_e, al_e, u_lt, u_le, u_gt, u_ge, u_lt0, u_le0, u_gt0, u_ge0, Classical.not_not, not_true_eq_false, not_false_eq_true, oi_n, oi_m, n_dec, nI_add, pk_mul, n_sub, n_eq, n_le, n_lt, n_eq0, n_lt0, n_le0, n_0lt, n_0le, n_eqm, m_eqn, n_ltm, n_and, n_or, n_xor, n_shl, n_shr, tb1, tb0, bP_1, bP_0, bP_n0, ix_n, inb_n, u_eq, u_eqm, ho, aty, S11.2.2.1]
  rw [r_Ta_init]
  exact ⟨trivial, rfl, S11⟩
def kPlI : List (Nat × (Nat × Nat)) := [(3, (0, 20)), (2, (0, 20)), (1, (0, 20)), (0, (0, 20))]
theorem c_Pl_init {r1 : Nat} (hg : gn h = o + 1) (hk : gk h o = some (.inl 5)) (hi : gi h o = fun _ => 0) (ho : 20 ≤ o) : Mz (d + 1) 187 [.ref o, .ref r1] h 4 80 (PRo o 5 h 4 kPlI [(0, r1), (4, o + 4), (3, o + 3), (2, o + 2), (1, o + 1)] (fun _ => 0)) := by
  refine mz_in (l := [some (.ref o), some (.ref r1)]) mk_Pl_init n_Pl_init rfl l_Pl_init rfl (Nat.le_of_ble_eq_true rfl) fun P hP => ?_
  have S0 : RIo o 5 h h 0 [] [] (fun _ => 0) := ⟨hg, fun a q => ⟨rfl, rfl, rfl, rfl⟩, hk, hi, fun a q1 q2 => (by exfalso; omega), fun q hq => (by cases hq), fun q hq => (by cases hq)⟩
  have e0 : gn (h) = o + 1 := by rw [S0.1]
  have T0 := ro_al (kd := (0, 20)) S0
  have a0 : gk (al (h) (.inr (0, 20))) o = some (.inl 5) := T0.2.2.1
  have n0 : gn (al (h) (.inr (0, 20))) = o + 2 := by rw [T0.1]
  have S1 := ro_wr (f := 1) (v := o + 1) T0 rfl
  refine hP.1 _ _ sx_Pl_init_0 _ _ _ _ _ ?_
  simp (maxSteps := 1000000) (disch := omega) only [gx_Pl_init_0, slk, List.map_cons, List.map_nil, List.sum_cons, List.sum_nil, vc_i, vc_r, vc_n, vc_l, vc_o, Nat.add_zero, kO_e, kA_e, hdO_a, eq_self, blk, stp, lg, ls0, lk, ls1, ls2, kI_i, kL_l, kR_r, kR_n, kR_o, s1I_i, s2I_i, s1L_l, s2L_l, s1R_r, s1R_n, s1R_o, s1A_a, cmpc, popn, swt, rf_s, rf_n, cat_i, cat_r, cat_n, cat_l, true_and, and_true, List.length_cons, List.length_nil, Nat.zero_add, Int.reduceToNat, Nat.reduceAdd, Nat.reduceDiv, Nat.reduceMod, Nat.reduceMul, Nat.reduceSub, Nat.reduceLeDiff, Nat.reduceLT, Nat.reduceEqDiff, ↓reduceIte, r_gr_wi, r_gl_wi, r_gk_wi, r_gn_wi, r_wi_eq, r_wi_ne, r_wi_nj, r_gi_wr, r_gl_wr, r_gk_wr, r_gn_wr, r_gr_wa, r_gl_wa, r_gk_wa, r_gn_wa, aa_e, as_e, al_e, u_lt, u_le, u_gt, u_ge, u_lt0, u_le0, u_gt0, u_ge0, Classical.not_not, not_true_eq_false, not_false_eq_true, oi_n, oi_m, n_dec, nI_add, pk_mul, n_sub, n_eq, n_le, n_lt, n_eq0, n_lt0, n_le0, n_0lt, n_0le, n_eqm, m_eqn, n_ltm, n_and, n_or, n_xor, n_shl, n_shr, tb1, tb0, bP_1, bP_0, bP_n0, ix_n, inb_n, u_eq, u_eqm, ho, aty, e0, n0, a0, S0.2.2.1]
  generalize wr (al (h) (.inr (0, 20))) o 1 (some (o + 1)) = H1 at S1 ⊢
  have e1 : gn (H1) = o + 2 := by rw [S1.1]
  have T1 := ro_al (kd := (0, 20)) S1
  have a1 : gk (al (H1) (.inr (0, 20))) o = some (.inl 5) := T1.2.2.1
  have n1 : gn (al (H1) (.inr (0, 20))) = o + 3 := by rw [T1.1]
  have S2 := ro_wr (f := 2) (v := o + 2) T1 rfl
  refine hP.1 _ _ sx_Pl_init_12 _ _ _ _ _ ?_
  simp (maxSteps := 1000000) (disch := omega) only [gx_Pl_init_12, slk, List.map_cons, List.map_nil, List.sum_cons, List.sum_nil, vc_i, vc_r, vc_n, vc_l, vc_o, Nat.add_zero, kO_e, kA_e, hdO_a, eq_self, blk, stp, lg, ls0, lk, ls1, ls2, kI_i, kL_l, kR_r, kR_n, kR_o, s1I_i, s2I_i, s1L_l, s2L_l, s1R_r, s1R_n, s1R_o, s1A_a, cmpc, popn, swt, rf_s, rf_n, cat_i, cat_r, cat_n, cat_l, true_and, and_true, List.length_cons, List.length_nil, Nat.zero_add, Int.reduceToNat, Nat.reduceAdd, Nat.reduceDiv, Nat.reduceMod, Nat.reduceMul, Nat.reduceSub, Nat.reduceLeDiff, Nat.reduceLT, Nat.reduceEqDiff, ↓reduceIte, r_gr_wi, r_gl_wi, r_gk_wi, r_gn_wi, r_wi_eq, r_wi_ne, r_wi_nj, r_gi_wr, r_gl_wr, r_gk_wr, r_gn_wr, r_gr_wa, r_gl_wa, r_gk_wa, r_gn_wa, aa_e, as_e, al_e, u_lt, u_le, u_gt, u_ge, u_lt0, u_le0, u_gt0, u_ge0, Classical.not_not, not_true_eq_false, not_false_eq_true, oi_n, oi_m, n_dec, nI_add, pk_mul, n_sub, n_eq, n_le, n_lt, n_eq0, n_lt0, n_le0, n_0lt, n_0le, n_eqm, m_eqn, n_ltm, n_and, n_or, n_xor, n_shl, n_shr, tb1, tb0, bP_1, bP_0, bP_n0, ix_n, inb_n, u_eq, u_eqm, ho, aty, e1, n1, a1, S1.2.2.1]
  generalize wr (al (H1) (.inr (0, 20))) o 2 (some (o + 2)) = H2 at S2 ⊢
  have e2 : gn (H2) = o + 3 := by rw [S2.1]
  have T2 := ro_al (kd := (0, 20)) S2
  have a2 : gk (al (H2) (.inr (0, 20))) o = some (.inl 5) := T2.2.2.1
  have n2 : gn (al (H2) (.inr (0, 20))) = o + 4 := by rw [T2.1]
  have S3 := ro_wr (f := 3) (v := o + 3) T2 rfl
  refine hP.1 _ _ sx_Pl_init_20 _ _ _ _ _ ?_
  simp (maxSteps := 1000000) (disch := omega) only [gx_Pl_init_20, slk, List.map_cons, List.map_nil, List.sum_cons, List.sum_nil, vc_i, vc_r, vc_n, vc_l, vc_o, Nat.add_zero, kO_e, kA_e, hdO_a, eq_self, blk, stp, lg, ls0, lk, ls1, ls2, kI_i, kL_l, kR_r, kR_n, kR_o, s1I_i, s2I_i, s1L_l, s2L_l, s1R_r, s1R_n, s1R_o, s1A_a, cmpc, popn, swt, rf_s, rf_n, cat_i, cat_r, cat_n, cat_l, true_and, and_true, List.length_cons, List.length_nil, Nat.zero_add, Int.reduceToNat, Nat.reduceAdd, Nat.reduceDiv, Nat.reduceMod, Nat.reduceMul, Nat.reduceSub, Nat.reduceLeDiff, Nat.reduceLT, Nat.reduceEqDiff, ↓reduceIte, r_gr_wi, r_gl_wi, r_gk_wi, r_gn_wi, r_wi_eq, r_wi_ne, r_wi_nj, r_gi_wr, r_gl_wr, r_gk_wr, r_gn_wr, r_gr_wa, r_gl_wa, r_gk_wa, r_gn_wa, aa_e, as_e, al_e, u_lt, u_le, u_gt, u_ge, u_lt0, u_le0, u_gt0, u_ge0, Classical.not_not, not_true_eq_false, not_false_eq_true, oi_n, oi_m, n_dec, nI_add, pk_mul, n_sub, n_eq, n_le, n_lt, n_eq0, n_lt0, n_le0, n_0lt, n_0le, n_eqm, m_eqn, n_ltm, n_and, n_or, n_xor, n_shl, n_shr, tb1, tb0, bP_1, bP_0, bP_n0, ix_n, inb_n, u_eq, u_eqm, ho, aty, e2, n2, a2, S2.2.2.1]
  generalize wr (al (H2) (.inr (0, 20))) o 3 (some (o + 3)) = H3 at S3 ⊢
  have e3 : gn (H3) = o + 4 := by rw [S3.1]
  have T3 := ro_al (kd := (0, 20)) S3
  have a3 : gk (al (H3) (.inr (0, 20))) o = some (.inl 5) := T3.2.2.1
  have n3 : gn (al (H3) (.inr (0, 20))) = o + 5 := by rw [T3.1]
  have S4 := ro_wr (f := 4) (v := o + 4) T3 rfl
  refine hP.1 _ _ sx_Pl_init_28 _ _ _ _ _ ?_
  simp (maxSteps := 1000000) (disch := omega) only [gx_Pl_init_28, slk, List.map_cons, List.map_nil, List.sum_cons, List.sum_nil, vc_i, vc_r, vc_n, vc_l, vc_o, Nat.add_zero, kO_e, kA_e, hdO_a, eq_self, blk, stp, lg, ls0, lk, ls1, ls2, kI_i, kL_l, kR_r, kR_n, kR_o, s1I_i, s2I_i, s1L_l, s2L_l, s1R_r, s1R_n, s1R_o, s1A_a, cmpc, popn, swt, rf_s, rf_n, cat_i, cat_r, cat_n, cat_l, true_and, and_true, List.length_cons, List.length_nil, Nat.zero_add, Int.reduceToNat, Nat.reduceAdd, Nat.reduceDiv, Nat.reduceMod, Nat.reduceMul, Nat.reduceSub, Nat.reduceLeDiff, Nat.reduceLT, Nat.reduceEqDiff, ↓reduceIte, r_gr_wi, r_gl_wi, r_gk_wi, r_gn_wi, r_wi_eq, r_wi_ne, r_wi_nj, r_gi_wr, r_gl_wr, r_gk_wr, r_gn_wr, r_gr_wa, r_gl_wa, r_gk_wa, r_gn_wa, aa_e, as_e, al_e, u_lt, u_le, u_gt, u_ge, u_lt0, u_le0, u_gt0, u_ge0, Classical.not_not, not_true_eq_false, not_false_eq_true, oi_n, oi_m, n_dec, nI_add, pk_mul, n_sub, n_eq, n_le, n_lt, n_eq0, n_lt0, n_le0, n_0lt, n_0le, n_eqm, m_eqn, n_ltm, n_and, n_or, n_xor, n_shl, n_shr, tb1, tb0, bP_1, bP_0, bP_n0, ix_n, inb_n, u_eq, u_eqm, ho, aty, e3, n3, a3, S3.2.2.1]
  generalize wr (al (H3) (.inr (0, 20))) o 4 (some (o + 4)) = H4 at S4 ⊢
  have S5 := ro_wr (f := 0) (v := r1) S4 rfl
  refine hP.1 _ _ sx_Pl_init_36 _ _ _ _ _ ?_
  simp (maxSteps := 1000000) (disch := omega) only [gx_Pl_init_36, slk, List.map_cons, List.map_nil, List.sum_cons, List.sum_nil, vc_i, vc_r, vc_n, vc_l, vc_o, Nat.add_zero, kO_e, kA_e, hdO_a, eq_self, blk, stp, lg, ls0, lk, ls1, ls2, kI_i, kL_l, kR_r, kR_n, kR_o, s1I_i, s2I_i, s1L_l, s2L_l, s1R_r, s1R_n, s1R_o, s1A_a, cmpc, popn, swt, rf_s, rf_n, cat_i, cat_r, cat_n, cat_l, true_and, and_true, List.length_cons, List.length_nil, Nat.zero_add, Int.reduceToNat, Nat.reduceAdd, Nat.reduceDiv, Nat.reduceMod, Nat.reduceMul, Nat.reduceSub, Nat.reduceLeDiff, Nat.reduceLT, Nat.reduceEqDiff, ↓reduceIte, r_gr_wi, r_gl_wi, r_gk_wi, r_gn_wi, r_wi_eq, r_wi_ne, r_wi_nj, r_gi_wr, r_gl_wr, r_gk_wr, r_gn_wr, r_gr_wa, r_gl_wa, r_gk_wa, r_gn_wa, aa_e, as_e, al_e, u_lt, u_le, u_gt, u_ge, u_lt0, u_le0, u_gt0, u_ge0, Classical.not_not, not_true_eq_false, not_false_eq_true, oi_n, oi_m, n_dec, nI_add, pk_mul, n_sub, n_eq, n_le, n_lt, n_eq0, n_lt0, n_le0, n_0lt, n_0le, n_eqm, m_eqn, n_ltm, n_and, n_or, n_xor, n_shl, n_shr, tb1, tb0, bP_1, bP_0, bP_n0, ix_n, inb_n, u_eq, u_eqm, ho, aty, S4.2.2.1]
  generalize wr (H4) o 0 (some r1) = H5 at S5 ⊢
  refine hP.1 _ _ sx_Pl_init_41 _ _ _ _ _ ?_
  simp (maxSteps := 1000000) (disch := omega) only [gx_Pl_init_41, slk, List.map_cons, List.map_nil, List.sum_cons, List.sum_nil, vc_i, vc_r, vc_n, vc_l, vc_o, Nat.add_zero, kO_e, kA_e, hdO_a, eq_self, blk, stp, lg, ls0, lk, ls1, ls2, kI_i, kL_l, kR_r, kR_n, kR_o, s1I_i, s2I_i, s1L_l, s2L_l, s1R_r, s1R_n, s1R_o, s1A_a, cmpc, popn, swt, rf_s, rf_n, cat_i, cat_r, cat_n, cat_l, true_and, and_true, List.length_cons, List.length_nil, Nat.zero_add, Int.reduceToNat, Nat.reduceAdd, Nat.reduceDiv, Nat.reduceMod, Nat.reduceMul, Nat.reduceSub, Nat.reduceLeDiff, Nat.reduceLT, Nat.reduceEqDiff, ↓reduceIte, r_gr_wi, r_gl_wi, r_gk_wi, r_gn_wi, r_wi_eq, r_wi_ne, r_wi_nj, r_gi_wr, r_gl_wr, r_gk_wr, r_gn_wr, r_gr_wa, r_gl_wa, r_gk_wa, r_gn_wa, aa_e, as_e, al_e, u_lt, u_le, u_gt, u_ge, u_lt0, u_le0, u_gt0, u_ge0, Classical.not_not, not_true_eq_false, not_false_eq_true, oi_n, oi_m, n_dec, nI_add, pk_mul, n_sub, n_eq, n_le, n_lt, n_eq0, n_lt0, n_le0, n_0lt, n_0le, n_eqm, m_eqn, n_ltm, n_and, n_or, n_xor, n_shl, n_shr, tb1, tb0, bP_1, bP_0, bP_n0, ix_n, inb_n, u_eq, u_eqm, ho, aty, S5.2.2.1]
  rw [r_Pl_init]
  exact ⟨trivial, rfl, S5⟩
def kCoI : List (Nat × (Nat × Nat)) := [(0, (0, 8))]
theorem c_Co_init {r1 : Nat} (hg : gn h = o + 1) (hk : gk h o = some (.inl 2)) (hi : gi h o = fun _ => 0) (ho : 20 ≤ o) : Mz (d + 1) 156 [.ref o, .ref r1] h 1 8 (PRo o 2 h 1 kCoI [(0, r1), (1, o + 1)] (fun _ => 0)) := by
  refine mz_in (l := [some (.ref o), some (.ref r1)]) mk_Co_init n_Co_init rfl l_Co_init rfl (Nat.le_of_ble_eq_true rfl) fun P hP => ?_
  have S0 : RIo o 2 h h 0 [] [] (fun _ => 0) := ⟨hg, fun a q => ⟨rfl, rfl, rfl, rfl⟩, hk, hi, fun a q1 q2 => (by exfalso; omega), fun q hq => (by cases hq), fun q hq => (by cases hq)⟩
  have e0 : gn (h) = o + 1 := by rw [S0.1]
  have T0 := ro_al (kd := (0, 8)) S0
  have a0 : gk (al (h) (.inr (0, 8))) o = some (.inl 2) := T0.2.2.1
  have n0 : gn (al (h) (.inr (0, 8))) = o + 2 := by rw [T0.1]
  have S1 := ro_wr (f := 1) (v := o + 1) T0 rfl
  have S2 := ro_wr (f := 0) (v := r1) S1 rfl
  refine hP.1 _ _ s_Co_init_0 _ _ _ _ _ ?_
  simp (maxSteps := 1000000) (disch := omega) only [g_Co_init_0, slk, List.map_cons, List.map_nil, List.sum_cons, List.sum_nil, vc_i, vc_r, vc_n, vc_l, vc_o, Nat.add_zero, kO_e, kA_e, hdO_a, eq_self, blk, stp, lg, ls0, lk, ls1, ls2, kI_i, kL_l, kR_r, kR_n, kR_o, s1I_i, s2I_i, s1L_l, s2L_l, s1R_r, s1R_n, s1R_o, s1A_a, cmpc, popn, swt, rf_s, rf_n, cat_i, cat_r, cat_n, cat_l, true_and, and_true, List.length_cons, List.length_nil, Nat.zero_add, Int.reduceToNat, Nat.reduceAdd, Nat.reduceDiv, Nat.reduceMod, Nat.reduceMul, Nat.reduceSub, Nat.reduceLeDiff, Nat.reduceLT, Nat.reduceEqDiff, ↓reduceIte, r_gr_wi, r_gl_wi, r_gk_wi, r_gn_wi, r_wi_eq, r_wi_ne, r_wi_nj, r_gi_wr, r_gl_wr, r_gk_wr, r_gn_wr, r_gr_wa, r_gl_wa, r_gk_wa, r_gn_wa, aa_e, as_e, al_e, u_lt, u_le, u_gt, u_ge, u_lt0, u_le0, u_gt0, u_ge0, Classical.not_not, not_true_eq_false, not_false_eq_true, oi_n, oi_m, n_dec, nI_add, pk_mul, n_sub, n_eq, n_le, n_lt, n_eq0, n_lt0, n_le0, n_0lt, n_0le, n_eqm, m_eqn, n_ltm, n_and, n_or, n_xor, n_shl, n_shr, tb1, tb0, bP_1, bP_0, bP_n0, ix_n, inb_n, u_eq, u_eqm, ho, aty, e0, n0, a0, S0.2.2.1, S1.2.2.1, S2.2.2.1]
  rw [r_Co_init]
  exact ⟨trivial, rfl, S2⟩
def kGfI : List (Nat × (Nat × Nat)) := [(6, (0, 1024)), (5, (0, 1024)), (4, (0, 8)), (3, (0, 8)), (2, (0, 8)), (1, (0, 8)), (0, (0, 8))]
theorem c_Gf_init {r1 : Nat} (hg : gn h = o + 1) (hk : gk h o = some (.inl 3)) (hi : gi h o = fun _ => 0) (ho : 20 ≤ o) : Mz (d + 1) 166 [.ref o, .ref r1] h 7 2088 (PRo o 3 h 7 kGfI [(0, r1), (7, o + 7), (6, o + 6), (5, o + 5), (4, o + 4), (3, o + 3), (2, o + 2), (1, o + 1)] (fun _ => 0)) := by
  refine mz_in (l := [some (.ref o), some (.ref r1)]) mk_Gf_init n_Gf_init rfl l_Gf_init rfl (Nat.le_of_ble_eq_true rfl) fun P hP => ?_
  have S0 : RIo o 3 h h 0 [] [] (fun _ => 0) := ⟨hg, fun a q => ⟨rfl, rfl, rfl, rfl⟩, hk, hi, fun a q1 q2 => (by exfalso; omega), fun q hq => (by cases hq), fun q hq => (by cases hq)⟩
  have e0 : gn (h) = o + 1 := by rw [S0.1]
  have T0 := ro_al (kd := (0, 8)) S0
  have a0 : gk (al (h) (.inr (0, 8))) o = some (.inl 3) := T0.2.2.1
  have n0 : gn (al (h) (.inr (0, 8))) = o + 2 := by rw [T0.1]
  have S1 := ro_wr (f := 1) (v := o + 1) T0 rfl
  refine hP.1 _ _ sx_Gf_init_0 _ _ _ _ _ ?_
  simp (maxSteps := 1000000) (disch := omega) only [gx_Gf_init_0, slk, List.map_cons, List.map_nil, List.sum_cons, List.sum_nil, vc_i, vc_r, vc_n, vc_l, vc_o, Nat.add_zero, kO_e, kA_e, hdO_a, eq_self, blk, stp, lg, ls0, lk, ls1, ls2, kI_i, kL_l, kR_r, kR_n, kR_o, s1I_i, s2I_i, s1L_l, s2L_l, s1R_r, s1R_n, s1R_o, s1A_a, cmpc, popn, swt, rf_s, rf_n, cat_i, cat_r, cat_n, cat_l, true_and, and_true, List.length_cons, List.length_nil, Nat.zero_add, Int.reduceToNat, Nat.reduceAdd, Nat.reduceDiv, Nat.reduceMod, Nat.reduceMul, Nat.reduceSub, Nat.reduceLeDiff, Nat.reduceLT, Nat.reduceEqDiff, ↓reduceIte, r_gr_wi, r_gl_wi, r_gk_wi, r_gn_wi, r_wi_eq, r_wi_ne, r_wi_nj, r_gi_wr, r_gl_wr, r_gk_wr, r_gn_wr, r_gr_wa, r_gl_wa, r_gk_wa, r_gn_wa, aa_e, as_e, al_e, u_lt, u_le, u_gt, u_ge, u_lt0, u_le0, u_gt0, u_ge0, Classical.not_not, not_true_eq_false, not_false_eq_true, oi_n, oi_m, n_dec, nI_add, pk_mul, n_sub, n_eq, n_le, n_lt, n_eq0, n_lt0, n_le0, n_0lt, n_0le, n_eqm, m_eqn, n_ltm, n_and, n_or, n_xor, n_shl, n_shr, tb1, tb0, bP_1, bP_0, bP_n0, ix_n, inb_n, u_eq, u_eqm, ho, aty, e0, n0, a0, S0.2.2.1]
  generalize wr (al (h) (.inr (0, 8))) o 1 (some (o + 1)) = H1 at S1 ⊢
  have e1 : gn (H1) = o + 2 := by rw [S1.1]
  have T1 := ro_al (kd := (0, 8)) S1
  have a1 : gk (al (H1) (.inr (0, 8))) o = some (.inl 3) := T1.2.2.1
  have n1 : gn (al (H1) (.inr (0, 8))) = o + 3 := by rw [T1.1]
  have S2 := ro_wr (f := 2) (v := o + 2) T1 rfl
  refine hP.1 _ _ sx_Gf_init_12 _ _ _ _ _ ?_
  simp (maxSteps := 1000000) (disch := omega) only [gx_Gf_init_12, slk, List.map_cons, List.map_nil, List.sum_cons, List.sum_nil, vc_i, vc_r, vc_n, vc_l, vc_o, Nat.add_zero, kO_e, kA_e, hdO_a, eq_self, blk, stp, lg, ls0, lk, ls1, ls2, kI_i, kL_l, kR_r, kR_n, kR_o, s1I_i, s2I_i, s1L_l, s2L_l, s1R_r, s1R_n, s1R_o, s1A_a, cmpc, popn, swt, rf_s, rf_n, cat_i, cat_r, cat_n, cat_l, true_and, and_true, List.length_cons, List.length_nil, Nat.zero_add, Int.reduceToNat, Nat.reduceAdd, Nat.reduceDiv, Nat.reduceMod, Nat.reduceMul, Nat.reduceSub, Nat.reduceLeDiff, Nat.reduceLT, Nat.reduceEqDiff, ↓reduceIte, r_gr_wi, r_gl_wi, r_gk_wi, r_gn_wi, r_wi_eq, r_wi_ne, r_wi_nj, r_gi_wr, r_gl_wr, r_gk_wr, r_gn_wr, r_gr_wa, r_gl_wa, r_gk_wa, r_gn_wa, aa_e, as_e, al_e, u_lt, u_le, u_gt, u_ge, u_lt0, u_le0, u_gt0, u_ge0, Classical.not_not, not_true_eq_false, not_false_eq_true, oi_n, oi_m, n_dec, nI_add, pk_mul, n_sub, n_eq, n_le, n_lt, n_eq0, n_lt0, n_le0, n_0lt, n_0le, n_eqm, m_eqn, n_ltm, n_and, n_or, n_xor, n_shl, n_shr, tb1, tb0, bP_1, bP_0, bP_n0, ix_n, inb_n, u_eq, u_eqm, ho, aty, e1, n1, a1, S1.2.2.1]
  generalize wr (al (H1) (.inr (0, 8))) o 2 (some (o + 2)) = H2 at S2 ⊢
  have e2 : gn (H2) = o + 3 := by rw [S2.1]
  have T2 := ro_al (kd := (0, 8)) S2
  have a2 : gk (al (H2) (.inr (0, 8))) o = some (.inl 3) := T2.2.2.1
  have n2 : gn (al (H2) (.inr (0, 8))) = o + 4 := by rw [T2.1]
  have S3 := ro_wr (f := 3) (v := o + 3) T2 rfl
  refine hP.1 _ _ sx_Gf_init_20 _ _ _ _ _ ?_
  simp (maxSteps := 1000000) (disch := omega) only [gx_Gf_init_20, slk, List.map_cons, List.map_nil, List.sum_cons, List.sum_nil, vc_i, vc_r, vc_n, vc_l, vc_o, Nat.add_zero, kO_e, kA_e, hdO_a, eq_self, blk, stp, lg, ls0, lk, ls1, ls2, kI_i, kL_l, kR_r, kR_n, kR_o, s1I_i, s2I_i, s1L_l, s2L_l, s1R_r, s1R_n, s1R_o, s1A_a, cmpc, popn, swt, rf_s, rf_n, cat_i, cat_r, cat_n, cat_l, true_and, and_true, List.length_cons, List.length_nil, Nat.zero_add, Int.reduceToNat, Nat.reduceAdd, Nat.reduceDiv, Nat.reduceMod, Nat.reduceMul, Nat.reduceSub, Nat.reduceLeDiff, Nat.reduceLT, Nat.reduceEqDiff, ↓reduceIte, r_gr_wi, r_gl_wi, r_gk_wi, r_gn_wi, r_wi_eq, r_wi_ne, r_wi_nj, r_gi_wr, r_gl_wr, r_gk_wr, r_gn_wr, r_gr_wa, r_gl_wa, r_gk_wa, r_gn_wa, aa_e, as_e, al_e, u_lt, u_le, u_gt, u_ge, u_lt0, u_le0, u_gt0, u_ge0, Classical.not_not, not_true_eq_false, not_false_eq_true, oi_n, oi_m, n_dec, nI_add, pk_mul, n_sub, n_eq, n_le, n_lt, n_eq0, n_lt0, n_le0, n_0lt, n_0le, n_eqm, m_eqn, n_ltm, n_and, n_or, n_xor, n_shl, n_shr, tb1, tb0, bP_1, bP_0, bP_n0, ix_n, inb_n, u_eq, u_eqm, ho, aty, e2, n2, a2, S2.2.2.1]
  generalize wr (al (H2) (.inr (0, 8))) o 3 (some (o + 3)) = H3 at S3 ⊢
  have e3 : gn (H3) = o + 4 := by rw [S3.1]
  have T3 := ro_al (kd := (0, 8)) S3
  have a3 : gk (al (H3) (.inr (0, 8))) o = some (.inl 3) := T3.2.2.1
  have n3 : gn (al (H3) (.inr (0, 8))) = o + 5 := by rw [T3.1]
  have S4 := ro_wr (f := 4) (v := o + 4) T3 rfl
  refine hP.1 _ _ sx_Gf_init_28 _ _ _ _ _ ?_
  simp (maxSteps := 1000000) (disch := omega) only [gx_Gf_init_28, slk, List.map_cons, List.map_nil, List.sum_cons, List.sum_nil, vc_i, vc_r, vc_n, vc_l, vc_o, Nat.add_zero, kO_e, kA_e, hdO_a, eq_self, blk, stp, lg, ls0, lk, ls1, ls2, kI_i, kL_l, kR_r, kR_n, kR_o, s1I_i, s2I_i, s1L_l, s2L_l, s1R_r, s1R_n, s1R_o, s1A_a, cmpc, popn, swt, rf_s, rf_n, cat_i, cat_r, cat_n, cat_l, true_and, and_true, List.length_cons, List.length_nil, Nat.zero_add, Int.reduceToNat, Nat.reduceAdd, Nat.reduceDiv, Nat.reduceMod, Nat.reduceMul, Nat.reduceSub, Nat.reduceLeDiff, Nat.reduceLT, Nat.reduceEqDiff, ↓reduceIte, r_gr_wi, r_gl_wi, r_gk_wi, r_gn_wi, r_wi_eq, r_wi_ne, r_wi_nj, r_gi_wr, r_gl_wr, r_gk_wr, r_gn_wr, r_gr_wa, r_gl_wa, r_gk_wa, r_gn_wa, aa_e, as_e, al_e, u_lt, u_le, u_gt, u_ge, u_lt0, u_le0, u_gt0, u_ge0, Classical.not_not, not_true_eq_false, not_false_eq_true, oi_n, oi_m, n_dec, nI_add, pk_mul, n_sub, n_eq, n_le, n_lt, n_eq0, n_lt0, n_le0, n_0lt, n_0le, n_eqm, m_eqn, n_ltm, n_and, n_or, n_xor, n_shl, n_shr, tb1, tb0, bP_1, bP_0, bP_n0, ix_n, inb_n, u_eq, u_eqm, ho, aty, e3, n3, a3, S3.2.2.1]
  generalize wr (al (H3) (.inr (0, 8))) o 4 (some (o + 4)) = H4 at S4 ⊢
  have e4 : gn (H4) = o + 5 := by rw [S4.1]
  have T4 := ro_al (kd := (0, 8)) S4
  have a4 : gk (al (H4) (.inr (0, 8))) o = some (.inl 3) := T4.2.2.1
  have n4 : gn (al (H4) (.inr (0, 8))) = o + 6 := by rw [T4.1]
  have S5 := ro_wr (f := 5) (v := o + 5) T4 rfl
  refine hP.1 _ _ sx_Gf_init_36 _ _ _ _ _ ?_
  simp (maxSteps := 1000000) (disch := omega) only [gx_Gf_init_36, slk, List.map_cons, List.map_nil, List.sum_cons, List.sum_nil, vc_i, vc_r, vc_n, vc_l, vc_o, Nat.add_zero, kO_e, kA_e, hdO_a, eq_self, blk, stp, lg, ls0, lk, ls1, ls2, kI_i, kL_l, kR_r, kR_n, kR_o, s1I_i, s2I_i, s1L_l, s2L_l, s1R_r, s1R_n, s1R_o, s1A_a, cmpc, popn, swt, rf_s, rf_n, cat_i, cat_r, cat_n, cat_l, true_and, and_true, List.length_cons, List.length_nil, Nat.zero_add, Int.reduceToNat, Nat.reduceAdd, Nat.reduceDiv, Nat.reduceMod, Nat.reduceMul, Nat.reduceSub, Nat.reduceLeDiff, Nat.reduceLT, Nat.reduceEqDiff, ↓reduceIte, r_gr_wi, r_gl_wi, r_gk_wi, r_gn_wi, r_wi_eq, r_wi_ne, r_wi_nj, r_gi_wr, r_gl_wr, r_gk_wr, r_gn_wr, r_gr_wa, r_gl_wa, r_gk_wa, r_gn_wa, aa_e, as_e, al_e, u_lt, u_le, u_gt, u_ge, u_lt0, u_le0, u_gt0, u_ge0, Classical.not_not, not_true_eq_false, not_false_eq_true, oi_n, oi_m, n_dec, nI_add, pk_mul, n_sub, n_eq, n_le, n_lt, n_eq0, n_lt0, n_le0, n_0lt, n_0le, n_eqm, m_eqn, n_ltm, n_and, n_or, n_xor, n_shl, n_shr, tb1, tb0, bP_1, bP_0, bP_n0, ix_n, inb_n, u_eq, u_eqm, ho, aty, e4, n4, a4, S4.2.2.1]
  generalize wr (al (H4) (.inr (0, 8))) o 5 (some (o + 5)) = H5 at S5 ⊢
  have e5 : gn (H5) = o + 6 := by rw [S5.1]
  have T5 := ro_al (kd := (0, 1024)) S5
  have a5 : gk (al (H5) (.inr (0, 1024))) o = some (.inl 3) := T5.2.2.1
  have n5 : gn (al (H5) (.inr (0, 1024))) = o + 7 := by rw [T5.1]
  have S6 := ro_wr (f := 6) (v := o + 6) T5 rfl
  refine hP.1 _ _ sx_Gf_init_44 _ _ _ _ _ ?_
  simp (maxSteps := 1000000) (disch := omega) only [gx_Gf_init_44, slk, List.map_cons, List.map_nil, List.sum_cons, List.sum_nil, vc_i, vc_r, vc_n, vc_l, vc_o, Nat.add_zero, kO_e, kA_e, hdO_a, eq_self, blk, stp, lg, ls0, lk, ls1, ls2, kI_i, kL_l, kR_r, kR_n, kR_o, s1I_i, s2I_i, s1L_l, s2L_l, s1R_r, s1R_n, s1R_o, s1A_a, cmpc, popn, swt, rf_s, rf_n, cat_i, cat_r, cat_n, cat_l, true_and, and_true, List.length_cons, List.length_nil, Nat.zero_add, Int.reduceToNat, Nat.reduceAdd, Nat.reduceDiv, Nat.reduceMod, Nat.reduceMul, Nat.reduceSub, Nat.reduceLeDiff, Nat.reduceLT, Nat.reduceEqDiff, ↓reduceIte, r_gr_wi, r_gl_wi, r_gk_wi, r_gn_wi, r_wi_eq, r_wi_ne, r_wi_nj, r_gi_wr, r_gl_wr, r_gk_wr, r_gn_wr, r_gr_wa, r_gl_wa, r_gk_wa, r_gn_wa, aa_e, as_e, al_e, u_lt, u_le, u_gt, u_ge, u_lt0, u_le0, u_gt0, u_ge0, Classical.not_not, not_true_eq_false, not_false_eq_true, oi_n, oi_m, n_dec, nI_add, pk_mul, n_sub, n_eq, n_le, n_lt, n_eq0, n_lt0, n_le0, n_0lt, n_0le, n_eqm, m_eqn, n_ltm, n_and, n_or, n_xor, n_shl, n_shr, tb1, tb0, bP_1, bP_0, bP_n0, ix_n, inb_n, u_eq, u_eqm, ho, aty, e5, n5, a5, S5.2.2.1]
  generalize wr (al (H5) (.inr (0, 1024))) o 6 (some (o + 6)) = H6 at S6 ⊢
  have e6 : gn (H6) = o + 7 := by rw [S6.1]
  have T6 := ro_al (kd := (0, 1024)) S6
  have a6 : gk (al (H6) (.inr (0, 1024))) o = some (.inl 3) := T6.2.2.1
  have n6 : gn (al (H6) (.inr (0, 1024))) = o + 8 := by rw [T6.1]
  have S7 := ro_wr (f := 7) (v := o + 7) T6 rfl
  refine hP.1 _ _ sx_Gf_init_53 _ _ _ _ _ ?_
  simp (maxSteps := 1000000) (disch := omega) only [gx_Gf_init_53, slk, List.map_cons, List.map_nil, List.sum_cons, List.sum_nil, vc_i, vc_r, vc_n, vc_l, vc_o, Nat.add_zero, kO_e, kA_e, hdO_a, eq_self, blk, stp, lg, ls0, lk, ls1, ls2, kI_i, kL_l, kR_r, kR_n, kR_o, s1I_i, s2I_i, s1L_l, s2L_l, s1R_r, s1R_n, s1R_o, s1A_a, cmpc, popn, swt, rf_s, rf_n, cat_i, cat_r, cat_n, cat_l, true_and, and_true, List.length_cons, List.length_nil, Nat.zero_add, Int.reduceToNat, Nat.reduceAdd, Nat.reduceDiv, Nat.reduceMod, Nat.reduceMul, Nat.reduceSub, Nat.reduceLeDiff, Nat.reduceLT, Nat.reduceEqDiff, ↓reduceIte, r_gr_wi, r_gl_wi, r_gk_wi, r_gn_wi, r_wi_eq, r_wi_ne, r_wi_nj, r_gi_wr, r_gl_wr, r_gk_wr, r_gn_wr, r_gr_wa, r_gl_wa, r_gk_wa, r_gn_wa, aa_e, as_e, al_e, u_lt, u_le, u_gt, u_ge, u_lt0, u_le0, u_gt0, u_ge0, Classical.not_not, not_true_eq_false, not_false_eq_true, oi_n, oi_m, n_dec, nI_add, pk_mul, n_sub, n_eq, n_le, n_lt, n_eq0, n_lt0, n_le0, n_0lt, n_0le, n_eqm, m_eqn, n_ltm, n_and, n_or, n_xor, n_shl, n_shr, tb1, tb0, bP_1, bP_0, bP_n0, ix_n, inb_n, u_eq, u_eqm, ho, aty, e6, n6, a6, S6.2.2.1]
  generalize wr (al (H6) (.inr (0, 1024))) o 7 (some (o + 7)) = H7 at S7 ⊢
  have S8 := ro_wr (f := 0) (v := r1) S7 rfl
  refine hP.1 _ _ sx_Gf_init_62 _ _ _ _ _ ?_
  simp (maxSteps := 1000000) (disch := omega) only [gx_Gf_init_62, slk, List.map_cons, List.map_nil, List.sum_cons, List.sum_nil, vc_i, vc_r, vc_n, vc_l, vc_o, Nat.add_zero, kO_e, kA_e, hdO_a, eq_self, blk, stp, lg, ls0, lk, ls1, ls2, kI_i, kL_l, kR_r, kR_n, kR_o, s1I_i, s2I_i, s1L_l, s2L_l, s1R_r, s1R_n, s1R_o, s1A_a, cmpc, popn, swt, rf_s, rf_n, cat_i, cat_r, cat_n, cat_l, true_and, and_true, List.length_cons, List.length_nil, Nat.zero_add, Int.reduceToNat, Nat.reduceAdd, Nat.reduceDiv, Nat.reduceMod, Nat.reduceMul, Nat.reduceSub, Nat.reduceLeDiff, Nat.reduceLT, Nat.reduceEqDiff, ↓reduceIte, r_gr_wi, r_gl_wi, r_gk_wi, r_gn_wi, r_wi_eq, r_wi_ne, r_wi_nj, r_gi_wr, r_gl_wr, r_gk_wr, r_gn_wr, r_gr_wa, r_gl_wa, r_gk_wa, r_gn_wa, aa_e, as_e, al_e, u_lt, u_le, u_gt, u_ge, u_lt0, u_le0, u_gt0, u_ge0, Classical.not_not, not_true_eq_false, not_false_eq_true, oi_n, oi_m, n_dec, nI_add, pk_mul, n_sub, n_eq, n_le, n_lt, n_eq0, n_lt0, n_le0, n_0lt, n_0le, n_eqm, m_eqn, n_ltm, n_and, n_or, n_xor, n_shl, n_shr, tb1, tb0, bP_1, bP_0, bP_n0, ix_n, inb_n, u_eq, u_eqm, ho, aty, S7.2.2.1]
  generalize wr (H7) o 0 (some r1) = H8 at S8 ⊢
  refine hP.1 _ _ sx_Gf_init_67 _ _ _ _ _ ?_
  simp (maxSteps := 1000000) (disch := omega) only [gx_Gf_init_67, slk, List.map_cons, List.map_nil, List.sum_cons, List.sum_nil, vc_i, vc_r, vc_n, vc_l, vc_o, Nat.add_zero, kO_e, kA_e, hdO_a, eq_self, blk, stp, lg, ls0, lk, ls1, ls2, kI_i, kL_l, kR_r, kR_n, kR_o, s1I_i, s2I_i, s1L_l, s2L_l, s1R_r, s1R_n, s1R_o, s1A_a, cmpc, popn, swt, rf_s, rf_n, cat_i, cat_r, cat_n, cat_l, true_and, and_true, List.length_cons, List.length_nil, Nat.zero_add, Int.reduceToNat, Nat.reduceAdd, Nat.reduceDiv, Nat.reduceMod, Nat.reduceMul, Nat.reduceSub, Nat.reduceLeDiff, Nat.reduceLT, Nat.reduceEqDiff, ↓reduceIte, r_gr_wi, r_gl_wi, r_gk_wi, r_gn_wi, r_wi_eq, r_wi_ne, r_wi_nj, r_gi_wr, r_gl_wr, r_gk_wr, r_gn_wr, r_gr_wa, r_gl_wa, r_gk_wa, r_gn_wa, aa_e, as_e, al_e, u_lt, u_le, u_gt, u_ge, u_lt0, u_le0, u_gt0, u_ge0, Classical.not_not, not_true_eq_false, not_false_eq_true, oi_n, oi_m, n_dec, nI_add, pk_mul, n_sub, n_eq, n_le, n_lt, n_eq0, n_lt0, n_le0, n_0lt, n_0le, n_eqm, m_eqn, n_ltm, n_and, n_or, n_xor, n_shl, n_shr, tb1, tb0, bP_1, bP_0, bP_n0, ix_n, inb_n, u_eq, u_eqm, ho, aty, S8.2.2.1]
  rw [r_Gf_init]
  exact ⟨trivial, rfl, S8⟩
def kAsI : List (Nat × (Nat × Nat)) := [(4, (0, 60)), (3, (0, 60)), (2, (0, 60)), (1, (0, 60)), (0, (0, 60))]
theorem c_As_init (hg : gn h = o + 1) (hk : gk h o = some (.inl 0)) (hi : gi h o = fun _ => 0) (ho : 20 ≤ o) : Mz (d + 1) 146 [.ref o] h 5 300 (PRo o 0 h 5 kAsI [(4, o + 5), (3, o + 4), (2, o + 3), (1, o + 2), (0, o + 1)] (fun _ => 0)) := by
  refine mz_in (l := [some (.ref o)]) mk_As_init n_As_init rfl l_As_init rfl (Nat.le_of_ble_eq_true rfl) fun P hP => ?_
  have S0 : RIo o 0 h h 0 [] [] (fun _ => 0) := ⟨hg, fun a q => ⟨rfl, rfl, rfl, rfl⟩, hk, hi, fun a q1 q2 => (by exfalso; omega), fun q hq => (by cases hq), fun q hq => (by cases hq)⟩
  have e0 : gn (h) = o + 1 := by rw [S0.1]
  have T0 := ro_al (kd := (0, 60)) S0
  have a0 : gk (al (h) (.inr (0, 60))) o = some (.inl 0) := T0.2.2.1
  have n0 : gn (al (h) (.inr (0, 60))) = o + 2 := by rw [T0.1]
  have S1 := ro_wr (f := 0) (v := o + 1) T0 rfl
  refine hP.1 _ _ sx_As_init_0 _ _ _ _ _ ?_
  simp (maxSteps := 1000000) (disch := omega) only [gx_As_init_0, slk, List.map_cons, List.map_nil, List.sum_cons, List.sum_nil, vc_i, vc_r, vc_n, vc_l, vc_o, Nat.add_zero, kO_e, kA_e, hdO_a, eq_self, blk, stp, lg, ls0, lk, ls1, ls2, kI_i, kL_l, kR_r, kR_n, kR_o, s1I_i, s2I_i, s1L_l, s2L_l, s1R_r, s1R_n, s1R_o, s1A_a, cmpc, popn, swt, rf_s, rf_n, cat_i, cat_r, cat_n, cat_l, true_and, and_true, List.length_cons, List.length_nil, Nat.zero_add, Int.reduceToNat, Nat.reduceAdd, Nat.reduceDiv, Nat.reduceMod, Nat.reduceMul, Nat.reduceSub, Nat.reduceLeDiff, Nat.reduceLT, Nat.reduceEqDiff, ↓reduceIte, r_gr_wi, r_gl_wi, r_gk_wi, r_gn_wi, r_wi_eq, r_wi_ne, r_wi_nj, r_gi_wr, r_gl_wr, r_gk_wr, r_gn_wr, r_gr_wa, r_gl_wa, r_gk_wa, r_gn_wa, aa_e, as_e, al_e, u_lt, u_le, u_gt, u_ge, u_lt0, u_le0, u_gt0, u_ge0, Classical.not_not, not_true_eq_false, not_false_eq_true, oi_n, oi_m, n_dec, nI_add, pk_mul, n_sub, n_eq, n_le, n_lt, n_eq0, n_lt0, n_le0, n_0lt, n_0le, n_eqm, m_eqn, n_ltm, n_and, n_or, n_xor, n_shl, n_shr, tb1, tb0, bP_1, bP_0, bP_n0, ix_n, inb_n, u_eq, u_eqm, ho, aty, e0, n0, a0, S0.2.2.1]
  generalize wr (al (h) (.inr (0, 60))) o 0 (some (o + 1)) = H1 at S1 ⊢
  have e1 : gn (H1) = o + 2 := by rw [S1.1]
  have T1 := ro_al (kd := (0, 60)) S1
  have a1 : gk (al (H1) (.inr (0, 60))) o = some (.inl 0) := T1.2.2.1
  have n1 : gn (al (H1) (.inr (0, 60))) = o + 3 := by rw [T1.1]
  have S2 := ro_wr (f := 1) (v := o + 2) T1 rfl
  refine hP.1 _ _ sx_As_init_12 _ _ _ _ _ ?_
  simp (maxSteps := 1000000) (disch := omega) only [gx_As_init_12, slk, List.map_cons, List.map_nil, List.sum_cons, List.sum_nil, vc_i, vc_r, vc_n, vc_l, vc_o, Nat.add_zero, kO_e, kA_e, hdO_a, eq_self, blk, stp, lg, ls0, lk, ls1, ls2, kI_i, kL_l, kR_r, kR_n, kR_o, s1I_i, s2I_i, s1L_l, s2L_l, s1R_r, s1R_n, s1R_o, s1A_a, cmpc, popn, swt, rf_s, rf_n, cat_i, cat_r, cat_n, cat_l, true_and, and_true, List.length_cons, List.length_nil, Nat.zero_add, Int.reduceToNat, Nat.reduceAdd, Nat.reduceDiv, Nat.reduceMod, Nat.reduceMul, Nat.reduceSub, Nat.reduceLeDiff, Nat.reduceLT, Nat.reduceEqDiff, ↓reduceIte, r_gr_wi, r_gl_wi, r_gk_wi, r_gn_wi, r_wi_eq, r_wi_ne, r_wi_nj, r_gi_wr, r_gl_wr, r_gk_wr, r_gn_wr, r_gr_wa, r_gl_wa, r_gk_wa, r_gn_wa, aa_e, as_e, al_e, u_lt, u_le, u_gt, u_ge, u_lt0, u_le0, u_gt0, u_ge0, Classical.not_not, not_true_eq_false, not_false_eq_true, oi_n, oi_m, n_dec, nI_add, pk_mul, n_sub, n_eq, n_le, n_lt, n_eq0, n_lt0, n_le0, n_0lt, n_0le, n_eqm, m_eqn, n_ltm, n_and, n_or, n_xor, n_shl, n_shr, tb1, tb0, bP_1, bP_0, bP_n0, ix_n, inb_n, u_eq, u_eqm, ho, aty, e1, n1, a1, S1.2.2.1]
  generalize wr (al (H1) (.inr (0, 60))) o 1 (some (o + 2)) = H2 at S2 ⊢
  have e2 : gn (H2) = o + 3 := by rw [S2.1]
  have T2 := ro_al (kd := (0, 60)) S2
  have a2 : gk (al (H2) (.inr (0, 60))) o = some (.inl 0) := T2.2.2.1
  have n2 : gn (al (H2) (.inr (0, 60))) = o + 4 := by rw [T2.1]
  have S3 := ro_wr (f := 2) (v := o + 3) T2 rfl
  refine hP.1 _ _ sx_As_init_20 _ _ _ _ _ ?_
  simp (maxSteps := 1000000) (disch := omega) only [gx_As_init_20, slk, List.map_cons, List.map_nil, List.sum_cons, List.sum_nil, vc_i, vc_r, vc_n, vc_l, vc_o, Nat.add_zero, kO_e, kA_e, hdO_a, eq_self, blk, stp, lg, ls0, lk, ls1, ls2, kI_i, kL_l, kR_r, kR_n, kR_o, s1I_i, s2I_i, s1L_l, s2L_l, s1R_r, s1R_n, s1R_o, s1A_a, cmpc, popn, swt, rf_s, rf_n, cat_i, cat_r, cat_n, cat_l, true_and, and_true, List.length_cons, List.length_nil, Nat.zero_add, Int.reduceToNat, Nat.reduceAdd, Nat.reduceDiv, Nat.reduceMod, Nat.reduceMul, Nat.reduceSub, Nat.reduceLeDiff, Nat.reduceLT, Nat.reduceEqDiff, ↓reduceIte, r_gr_wi, r_gl_wi, r_gk_wi, r_gn_wi, r_wi_eq, r_wi_ne, r_wi_nj, r_gi_wr, r_gl_wr, r_gk_wr, r_gn_wr, r_gr_wa, r_gl_wa, r_gk_wa, r_gn_wa, aa_e, as_e, al_e, u_lt, u_le, u_gt, u_ge, u_lt0, u_le0, u_gt0, u_ge0, Classical.not_not, not_true_eq_false, not_false_eq_true, oi_n, oi_m, n_dec, nI_add, pk_mul, n_sub, n_eq, n_le, n_lt, n_eq0, n_lt0, n_le0, n_0lt, n_0le, n_eqm, m_eqn, n_ltm, n_and, n_or, n_xor, n_shl, n_shr, tb1, tb0, bP_1, bP_0, bP_n0, ix_n, inb_n, u_eq, u_eqm, ho, aty, e2, n2, a2, S2.2.2.1]
  generalize wr (al (H2) (.inr (0, 60))) o 2 (some (o + 3)) = H3 at S3 ⊢
  have e3 : gn (H3) = o + 4 := by rw [S3.1]
  have T3 := ro_al (kd := (0, 60)) S3
  have a3 : gk (al (H3) (.inr (0, 60))) o = some (.inl 0) := T3.2.2.1
  have n3 : gn (al (H3) (.inr (0, 60))) = o + 5 := by rw [T3.1]
  have S4 := ro_wr (f := 3) (v := o + 4) T3 rfl
  refine hP.1 _ _ sx_As_init_28 _ _ _ _ _ ?_
  simp (maxSteps := 1000000) (disch := omega) only [gx_As_init_28, slk, List.map_cons, List.map_nil, List.sum_cons, List.sum_nil, vc_i, vc_r, vc_n, vc_l, vc_o, Nat.add_zero, kO_e, kA_e, hdO_a, eq_self, blk, stp, lg, ls0, lk, ls1, ls2, kI_i, kL_l, kR_r, kR_n, kR_o, s1I_i, s2I_i, s1L_l, s2L_l, s1R_r, s1R_n, s1R_o, s1A_a, cmpc, popn, swt, rf_s, rf_n, cat_i, cat_r, cat_n, cat_l, true_and, and_true, List.length_cons, List.length_nil, Nat.zero_add, Int.reduceToNat, Nat.reduceAdd, Nat.reduceDiv, Nat.reduceMod, Nat.reduceMul, Nat.reduceSub, Nat.reduceLeDiff, Nat.reduceLT, Nat.reduceEqDiff, ↓reduceIte, r_gr_wi, r_gl_wi, r_gk_wi, r_gn_wi, r_wi_eq, r_wi_ne, r_wi_nj, r_gi_wr, r_gl_wr, r_gk_wr, r_gn_wr, r_gr_wa, r_gl_wa, r_gk_wa, r_gn_wa, aa_e, as_e, al_e, u_lt, u_le, u_gt, u_ge, u_lt0, u_le0, u_gt0, u_ge0, Classical.not_not, not_true_eq_false, not_false_eq_true, oi_n, oi_m, n_dec, nI_add, pk_mul, n_sub, n_eq, n_le, n_lt, n_eq0, n_lt0, n_le0, n_0lt, n_0le, n_eqm, m_eqn, n_ltm, n_and, n_or, n_xor, n_shl, n_shr, tb1, tb0, bP_1, bP_0, bP_n0, ix_n, inb_n, u_eq, u_eqm, ho, aty, e3, n3, a3, S3.2.2.1]
  generalize wr (al (H3) (.inr (0, 60))) o 3 (some (o + 4)) = H4 at S4 ⊢
  have e4 : gn (H4) = o + 5 := by rw [S4.1]
  have T4 := ro_al (kd := (0, 60)) S4
  have a4 : gk (al (H4) (.inr (0, 60))) o = some (.inl 0) := T4.2.2.1
  have n4 : gn (al (H4) (.inr (0, 60))) = o + 6 := by rw [T4.1]
  have S5 := ro_wr (f := 4) (v := o + 5) T4 rfl
  refine hP.1 _ _ sx_As_init_36 _ _ _ _ _ ?_
  simp (maxSteps := 1000000) (disch := omega) only [gx_As_init_36, slk, List.map_cons, List.map_nil, List.sum_cons, List.sum_nil, vc_i, vc_r, vc_n, vc_l, vc_o, Nat.add_zero, kO_e, kA_e, hdO_a, eq_self, blk, stp, lg, ls0, lk, ls1, ls2, kI_i, kL_l, kR_r, kR_n, kR_o, s1I_i, s2I_i, s1L_l, s2L_l, s1R_r, s1R_n, s1R_o, s1A_a, cmpc, popn, swt, rf_s, rf_n, cat_i, cat_r, cat_n, cat_l, true_and, and_true, List.length_cons, List.length_nil, Nat.zero_add, Int.reduceToNat, Nat.reduceAdd, Nat.reduceDiv, Nat.reduceMod, Nat.reduceMul, Nat.reduceSub, Nat.reduceLeDiff, Nat.reduceLT, Nat.reduceEqDiff, ↓reduceIte, r_gr_wi, r_gl_wi, r_gk_wi, r_gn_wi, r_wi_eq, r_wi_ne, r_wi_nj, r_gi_wr, r_gl_wr, r_gk_wr, r_gn_wr, r_gr_wa, r_gl_wa, r_gk_wa, r_gn_wa, aa_e, as_e, al_e, u_lt, u_le, u_gt, u_ge, u_lt0, u_le0, u_gt0, u_ge0, Classical.not_not, not_true_eq_false, not_false_eq_true, oi_n, oi_m, n_dec, nI_add, pk_mul, n_sub, n_eq, n_le, n_lt, n_eq0, n_lt0, n_le0, n_0lt, n_0le, n_eqm, m_eqn, n_ltm, n_and, n_or, n_xor, n_shl, n_shr, tb1, tb0, bP_1, bP_0, bP_n0, ix_n, inb_n, u_eq, u_eqm, ho, aty, e4, n4, a4, S4.2.2.1]
  generalize wr (al (H4) (.inr (0, 60))) o 4 (some (o + 5)) = H5 at S5 ⊢
  refine hP.1 _ _ sx_As_init_44 _ _ _ _ _ ?_
  simp (maxSteps := 1000000) (disch := omega) only [gx_As_init_44, slk, List.map_cons, List.map_nil, List.sum_cons, List.sum_nil, vc_i, vc_r, vc_n, vc_l, vc_o, Nat.add_zero, kO_e, kA_e, hdO_a, eq_self, blk, stp, lg, ls0, lk, ls1, ls2, kI_i, kL_l, kR_r, kR_n, kR_o, s1I_i, s2I_i, s1L_l, s2L_l, s1R_r, s1R_n, s1R_o, s1A_a, cmpc, popn, swt, rf_s, rf_n, cat_i, cat_r, cat_n, cat_l, true_and, and_true, List.length_cons, List.length_nil, Nat.zero_add, Int.reduceToNat, Nat.reduceAdd, Nat.reduceDiv, Nat.reduceMod, Nat.reduceMul, Nat.reduceSub, Nat.reduceLeDiff, Nat.reduceLT, Nat.reduceEqDiff, ↓reduceIte, r_gr_wi, r_gl_wi, r_gk_wi, r_gn_wi, r_wi_eq, r_wi_ne, r_wi_nj, r_gi_wr, r_gl_wr, r_gk_wr, r_gn_wr, r_gr_wa, r_gl_wa, r_gk_wa, r_gn_wa, aa_e, as_e, al_e, u_lt, u_le, u_gt, u_ge, u_lt0, u_le0, u_gt0, u_ge0, Classical.not_not, not_true_eq_false, not_false_eq_true, oi_n, oi_m, n_dec, nI_add, pk_mul, n_sub, n_eq, n_le, n_lt, n_eq0, n_lt0, n_le0, n_0lt, n_0le, n_eqm, m_eqn, n_ltm, n_and, n_or, n_xor, n_shl, n_shr, tb1, tb0, bP_1, bP_0, bP_n0, ix_n, inb_n, u_eq, u_eqm, ho, aty, S5.2.2.1]
  rw [r_As_init]
  exact ⟨trivial, rfl, S5⟩
end
