/-! ===== the class's beginning: its own ===== -/
section
variable {h H : AH} {g : Nat} {KS : KL} {RL : RLs} {IL : NLs} {NL : List Nat}
theorem mk_rf {rs : RLs} (M : MKS h H g KS RL IL NL) (hr : ∀ q ∈ rs, gr H q.1 q.2.1 = some q.2.2 ∧ q.1 < g) : MKS h H g KS (rs ++ RL) IL NL := by
  obtain ⟨m1, m2, m3, m4, m5, m6, m7, m8⟩ := M
  exact ⟨m1, m2, m3, fun q hq => (List.mem_append.mp hq).elim (hr q) (m4 q), m5, m6, m7, m8⟩
theorem mk_nl {a : Nat} (M : MKS h H g KS RL IL NL) (ha : a < g) (hr : ∀ j, gr H a j = none) : MKS h H g KS RL IL (a :: NL) := by
  obtain ⟨m1, m2, m3, m4, m5, m6, m7, m8⟩ := M
  exact ⟨m1, m2, m3, m4, m5, fun b hb => by
    rcases List.mem_cons.mp hb with e | e
    · rw [e]
      exact ⟨ha, hr⟩
    · exact m6 b e, m7, m8⟩
theorem mk_k {q : Nat × (Nat ⊕ (Nat × Nat))} (M : MKS h H g KS RL IL NL) (hq : hasK KS q = true) : gk H q.1 = some q.2 := (M.2.2.1 q (hasK_ok hq)).1
theorem mk_r {q : Nat × Nat × Nat} (M : MKS h H g KS RL IL NL) (hq : q ∈ RL) : gr H q.1 q.2.1 = some q.2.2 := (M.2.2.2.1 q hq).1
theorem g7_0 (o : Nat) : ∀ j : Nat, (fun _ => (0 : Int32)) j = if (o, j) ∈ ([] : NLs) then (-1 : Int32) else 0 := fun j => (if_neg (fun y => by cases y)).symm
theorem g7_17 (o : Nat) : ∀ j : Nat, (fun j => if j = 17 then (-1 : Int32) else (fun _ => 0) j) j = if (o, j) ∈ [(o, 17)] then (-1 : Int32) else 0 := fun j => by
  by_cases z : j = 17
  · subst z
    rw [if_pos (List.mem_singleton.mpr rfl)]
    rfl
  · rw [if_neg (fun y => z (by have := List.mem_singleton.mp y; exact (Prod.mk.inj this).2))]
    exact if_neg z
end
def tK0 : KL := [(20, .inl 11)]
def tR0 : RLs := []
def tI0 : NLs := []
def tN0 : List Nat := []
def tK1 : KL := kCiI.map (fun q => (21 + 1 + q.1, .inr q.2)) ++ ((21, .inl 1) :: tK0)
def tR1 : RLs := (20, 0, 21) :: (([(23, 0, 24), (23, 1, 25), (23, 2, 26), (23, 3, 27), (23, 4, 28), (23, 5, 29), (23, 6, 30), (23, 7, 31)] : RLs) ++ ([(3, 21 + 12), (2, 21 + 11), (1, 21 + 2), (0, 21 + 1)].map (fun q => (21, q.1, q.2)) ++ tR0))
def tI1 : NLs := [] ++ tI0
def tN1 : List Nat := 32 :: tN0
def tK2 : KL := (34, .inr (4, 4)) :: tK1
def tR2 : RLs := (20, 1, 34) :: tR1
def tI2 : NLs := tI1
def tN2 : List Nat := tN1
def tK3 : KL := kTpI.map (fun q => (35 + 1 + q.1, .inr q.2)) ++ ((35, .inl 9) :: tK2)
def tR3 : RLs := (20, 2, 35) :: ([(0, 35 + 1)].map (fun q => (35, q.1, q.2)) ++ tR2)
def tI3 : NLs := [] ++ tI2
def tN3 : List Nat := tN2
def tK4 : KL := kReI.map (fun q => (37 + 1 + q.1, .inr q.2)) ++ ((37, .inl 6) :: tK3)
def tR4 : RLs := (20, 3, 37) :: ([(0, 35), (4, 0), (3, 0), (2, 37 + 2), (1, 37 + 1)].map (fun q => (37, q.1, q.2)) ++ tR3)
def tI4 : NLs := [] ++ tI3
def tN4 : List Nat := tN3
def tK5 : KL := (40, .inr (5, 8)) :: tK4
def tR5 : RLs := (20, 4, 40) :: tR4
def tI5 : NLs := tI4
def tN5 : List Nat := tN4
def tK6 : KL := (41, .inr (5, 8)) :: tK5
def tR6 : RLs := (20, 5, 41) :: tR5
def tI6 : NLs := tI5
def tN6 : List Nat := tN5
def tK7 : KL := kScI.map (fun q => (42 + 1 + q.1, .inr q.2)) ++ ((42, .inl 7) :: tK6)
def tR7 : RLs := (20, 6, 42) :: ([(1, 42 + 2), (0, 42 + 1)].map (fun q => (42, q.1, q.2)) ++ tR6)
def tI7 : NLs := [] ++ tI6
def tN7 : List Nat := tN6
def tK8 : KL := (45, .inr (6, 4)) :: tK7
def tR8 : RLs := (20, 7, 45) :: tR7
def tI8 : NLs := tI7
def tN8 : List Nat := tN7
def tK9 : KL := kTaI.map (fun q => (46 + 1 + q.1, .inr q.2)) ++ ((46, .inl 8) :: tK8)
def tR9 : RLs := (20, 8, 46) :: ([(2, 42), (1, 41), (0, 21), (10, 46 + 7), (9, 46 + 6), (8, 46 + 5), (7, 46 + 4), (6, 46 + 3), (5, 46 + 2), (4, 46 + 1)].map (fun q => (46, q.1, q.2)) ++ tR8)
def tI9 : NLs := [(46, 17)] ++ tI8
def tN9 : List Nat := tN8
def tK10 : KL := kPlI.map (fun q => (54 + 1 + q.1, .inr q.2)) ++ ((54, .inl 5) :: tK9)
def tR10 : RLs := (20, 9, 54) :: ([(0, 45), (4, 54 + 4), (3, 54 + 3), (2, 54 + 2), (1, 54 + 1)].map (fun q => (54, q.1, q.2)) ++ tR9)
def tI10 : NLs := [] ++ tI9
def tN10 : List Nat := tN9
def tK11 : KL := kCoI.map (fun q => (59 + 1 + q.1, .inr q.2)) ++ ((59, .inl 2) :: tK10)
def tR11 : RLs := (20, 10, 59) :: ([(0, 21), (1, 59 + 1)].map (fun q => (59, q.1, q.2)) ++ tR10)
def tI11 : NLs := [] ++ tI10
def tN11 : List Nat := tN10
def tK12 : KL := kGfI.map (fun q => (61 + 1 + q.1, .inr q.2)) ++ ((61, .inl 3) :: tK11)
def tR12 : RLs := (20, 11, 61) :: ([(0, 21), (7, 61 + 7), (6, 61 + 6), (5, 61 + 5), (4, 61 + 4), (3, 61 + 3), (2, 61 + 2), (1, 61 + 1)].map (fun q => (61, q.1, q.2)) ++ tR11)
def tI12 : NLs := [] ++ tI11
def tN12 : List Nat := tN11
def tK13 : KL := kAsI.map (fun q => (69 + 1 + q.1, .inr q.2)) ++ ((69, .inl 0) :: tK12)
def tR13 : RLs := (20, 12, 69) :: ([(4, 69 + 5), (3, 69 + 4), (2, 69 + 3), (1, 69 + 2), (0, 69 + 1)].map (fun q => (69, q.1, q.2)) ++ tR12)
def tI13 : NLs := [] ++ tI12
def tN13 : List Nat := tN12
def tK14 : KL := kTaI.map (fun q => (75 + 1 + q.1, .inr q.2)) ++ ((75, .inl 8) :: tK13)
def tR14 : RLs := (45, 0, 75) :: ([(2, 42), (1, 41), (0, 21), (10, 75 + 7), (9, 75 + 6), (8, 75 + 5), (7, 75 + 4), (6, 75 + 3), (5, 75 + 2), (4, 75 + 1)].map (fun q => (75, q.1, q.2)) ++ tR13)
def tI14 : NLs := [(75, 17)] ++ tI13
def tN14 : List Nat := tN13
def tK15 : KL := kTaI.map (fun q => (83 + 1 + q.1, .inr q.2)) ++ ((83, .inl 8) :: tK14)
def tR15 : RLs := (45, 1, 83) :: ([(2, 42), (1, 41), (0, 21), (10, 83 + 7), (9, 83 + 6), (8, 83 + 5), (7, 83 + 4), (6, 83 + 3), (5, 83 + 2), (4, 83 + 1)].map (fun q => (83, q.1, q.2)) ++ tR14)
def tI15 : NLs := [(83, 17)] ++ tI14
def tN15 : List Nat := tN14
def tK16 : KL := kTaI.map (fun q => (91 + 1 + q.1, .inr q.2)) ++ ((91, .inl 8) :: tK15)
def tR16 : RLs := (45, 2, 91) :: ([(2, 42), (1, 41), (0, 21), (10, 91 + 7), (9, 91 + 6), (8, 91 + 5), (7, 91 + 4), (6, 91 + 3), (5, 91 + 2), (4, 91 + 1)].map (fun q => (91, q.1, q.2)) ++ tR15)
def tI16 : NLs := [(91, 17)] ++ tI15
def tN16 : List Nat := tN15
def tK17 : KL := kTaI.map (fun q => (99 + 1 + q.1, .inr q.2)) ++ ((99, .inl 8) :: tK16)
def tR17 : RLs := (45, 3, 99) :: ([(2, 42), (1, 41), (0, 21), (10, 99 + 7), (9, 99 + 6), (8, 99 + 5), (7, 99 + 4), (6, 99 + 3), (5, 99 + 2), (4, 99 + 1)].map (fun q => (99, q.1, q.2)) ++ tR16)
def tI17 : NLs := [(99, 17)] ++ tI16
def tN17 : List Nat := tN16
def PTi (h : AH) (r : Option (Option Value)) (H : AH) : Prop := r = some none ∧ MKS h H 107 tK17 tR17 tI17 tN17
section
variable {h : AH} {d : Nat}
theorem c_T_init (hg : gn h = 21) (hk : gk h 20 = some (.inl 11)) (hi : gi h 20 = fun _ => 0) : Mz (d + 2) 0 [.ref 20] h 86 9895 (PTi h) := by
  have M0 : MKS h h 21 tK0 tR0 tI0 tN0 := ⟨hg, fun a q => ⟨rfl, rfl, rfl, rfl⟩, fun q hq => by
    have e := List.mem_singleton.mp hq
    rw [e]
    exact ⟨hk, by show 20 < 21; omega⟩, fun q hq => (by cases hq), fun a q1 q2 j => by
    have e : a = 20 := by omega
    rw [e, hi]
    exact (if_neg (fun y => by cases y)).symm, fun q hq => (by cases hq), fun q hq => (by cases hq), by omega⟩
  refine mz_in (l := [some (.ref 20), none]) mk_T_init n_T_init rfl l_T_init rfl (Nat.le_of_ble_eq_true rfl) fun P hP => ?_
  have e0 : gn h = 21 := M0.1
  have Q0 := r_al_k h (.inl 1) e0
  have A0 := mk_al (kd := .inl 1) M0
  have kT0 := mk_k (q := (20, .inl 11)) M0 (by decide +kernel)
  obtain ⟨J0, j0⟩ : ∃ J, J = al h (.inl 1) := ⟨_, rfl⟩
  rw [← j0] at Q0 A0
  have kA0 := mk_k (q := (20, .inl 11)) A0 (by decide +kernel)
  refine hP.1 _ _ sx_T_init_0 _ _ _ _ _ ?_
  simp (maxSteps := 1000000) (disch := omega) only [gx_T_init_0, slk, List.map_cons, List.map_nil, List.sum_cons, List.sum_nil, vc_i, vc_r, vc_n, vc_l, vc_o, Nat.add_zero, kO_e, kA_e, hdO_a, eq_self, blk, stp, lg, ls0, lk, ls1, ls2, kI_i, kL_l, kR_r, kR_n, kR_o, s1I_i, s2I_i, s1L_l, s2L_l, s1R_r, s1R_n, s1R_o, s1A_a, cmpc, popn, swt, rf_s, rf_n, cat_i, cat_r, cat_n, cat_l, true_and, and_true, List.length_cons, List.length_nil, Nat.zero_add, Int.reduceToNat, Nat.reduceAdd, Nat.reduceDiv, Nat.reduceMod, Nat.reduceMul, Nat.reduceSub, Nat.reduceLeDiff, Nat.reduceLT, Nat.reduceEqDiff, ↓reduceIte, r_gr_wi, r_gl_wi, r_gk_wi, r_gn_wi, r_wi_eq, r_wi_ne, r_wi_nj, r_gi_wr, r_gl_wr, r_gk_wr, r_gn_wr, r_gr_wa, r_gl_wa, r_gk_wa, r_gn_wa, aa_e, as_e, al_e, u_lt, u_le, u_gt, u_ge, u_lt0, u_le0, u_gt0, u_ge0, Classical.not_not, not_true_eq_false, not_false_eq_true, oi_n, oi_m, n_dec, nI_add, pk_mul, n_sub, n_eq, n_le, n_lt, n_eq0, n_lt0, n_le0, n_0lt, n_0le, n_eqm, m_eqn, n_ltm, n_and, n_or, n_xor, n_shl, n_shr, tb1, tb0, bP_1, bP_0, bP_n0, ix_n, inb_n, u_eq, u_eqm, e0, nfc, ← j0, Q0.2.1, kA0, kT0]
  refine ⟨_, _, _, c_Ci_init Q0.1 Q0.2.1 Q0.2.2.1 (by omega), ⟨by omega, by omega⟩, ?_⟩
  rintro r G0 ⟨rfl, S0, w0, n0⟩
  simp (maxSteps := 1000000) (disch := omega) only [slk, List.map_cons, List.map_nil, List.sum_cons, List.sum_nil, vc_i, vc_r, vc_n, vc_l, vc_o, Nat.add_zero, kO_e, kA_e, hdO_a, eq_self, blk, stp, lg, ls0, lk, ls1, ls2, kI_i, kL_l, kR_r, kR_n, kR_o, s1I_i, s2I_i, s1L_l, s2L_l, s1R_r, s1R_n, s1R_o, s1A_a, cmpc, popn, swt, rf_s, rf_n, cat_i, cat_r, cat_n, cat_l, true_and, and_true, List.length_cons, List.length_nil, Nat.zero_add, Int.reduceToNat, Nat.reduceAdd, Nat.reduceDiv, Nat.reduceMod, Nat.reduceMul, Nat.reduceSub, Nat.reduceLeDiff, Nat.reduceLT, Nat.reduceEqDiff, ↓reduceIte, r_gr_wi, r_gl_wi, r_gk_wi, r_gn_wi, r_wi_eq, r_wi_ne, r_wi_nj, r_gi_wr, r_gl_wr, r_gk_wr, r_gn_wr, r_gr_wa, r_gl_wa, r_gk_wa, r_gn_wa, aa_e, as_e, al_e, u_lt, u_le, u_gt, u_ge, u_lt0, u_le0, u_gt0, u_ge0, Classical.not_not, not_true_eq_false, not_false_eq_true, oi_n, oi_m, n_dec, nI_add, pk_mul, n_sub, n_eq, n_le, n_lt, n_eq0, n_lt0, n_le0, n_0lt, n_0le, n_eqm, m_eqn, n_ltm, n_and, n_or, n_xor, n_shl, n_shr, tb1, tb0, bP_1, bP_0, bP_n0, ix_n, inb_n, u_eq, u_eqm, e0, nfc, ← j0, Q0.2.1, kA0, kT0]
  have C0 := mk_in (il := []) A0 S0 (by omega) (by decide +kernel) (g7_0 21)
  have D0 := mk_rf (rs := [(23, 0, 24), (23, 1, 25), (23, 2, 26), (23, 3, 27), (23, 4, 28), (23, 5, 29), (23, 6, 30), (23, 7, 31)]) C0 (fun q hq => by
    have hw : ∀ q ∈ ([(23, 0, 24), (23, 1, 25), (23, 2, 26), (23, 3, 27), (23, 4, 28), (23, 5, 29), (23, 6, 30), (23, 7, 31)] : RLs), q.1 = 23 ∧ q.2.1 < 8 ∧ q.2.2 = 24 + q.2.1 := by decide +kernel
    obtain ⟨z1, z2, z3⟩ := hw q hq
    rw [z1, z3]
    exact ⟨w0 q.2.1 z2, by omega⟩)
  have E0 := mk_nl (a := 32) D0 (by omega) n0
  have kG0 := mk_k (q := (20, .inl 11)) E0 (by decide +kernel)
  refine hP.1 _ _ sx_T_init_12 _ _ _ _ _ ?_
  simp (maxSteps := 1000000) (disch := omega) only [gx_T_init_12, slk, List.map_cons, List.map_nil, List.sum_cons, List.sum_nil, vc_i, vc_r, vc_n, vc_l, vc_o, Nat.add_zero, kO_e, kA_e, hdO_a, eq_self, blk, stp, lg, ls0, lk, ls1, ls2, kI_i, kL_l, kR_r, kR_n, kR_o, s1I_i, s2I_i, s1L_l, s2L_l, s1R_r, s1R_n, s1R_o, s1A_a, cmpc, popn, swt, rf_s, rf_n, cat_i, cat_r, cat_n, cat_l, true_and, and_true, List.length_cons, List.length_nil, Nat.zero_add, Int.reduceToNat, Nat.reduceAdd, Nat.reduceDiv, Nat.reduceMod, Nat.reduceMul, Nat.reduceSub, Nat.reduceLeDiff, Nat.reduceLT, Nat.reduceEqDiff, ↓reduceIte, r_gr_wi, r_gl_wi, r_gk_wi, r_gn_wi, r_wi_eq, r_wi_ne, r_wi_nj, r_gi_wr, r_gl_wr, r_gk_wr, r_gn_wr, r_gr_wa, r_gl_wa, r_gk_wa, r_gn_wa, aa_e, as_e, al_e, u_lt, u_le, u_gt, u_ge, u_lt0, u_le0, u_gt0, u_ge0, Classical.not_not, not_true_eq_false, not_false_eq_true, oi_n, oi_m, n_dec, nI_add, pk_mul, n_sub, n_eq, n_le, n_lt, n_eq0, n_lt0, n_le0, n_0lt, n_0le, n_eqm, m_eqn, n_ltm, n_and, n_or, n_xor, n_shl, n_shr, tb1, tb0, bP_1, bP_0, bP_n0, ix_n, inb_n, u_eq, u_eqm, kG0]
  have B0 := mk_wr (a := 20) (f := 0) (v := 21) E0 ⟨by omega, by omega⟩ (by decide +kernel)
  generalize wr G0 20 0 (some 21) = H1 at B0 ⊢
  have M1 : MKS h H1 34 tK1 tR1 tI1 tN1 := B0
  clear B0 M0
  have e1 : gn H1 = 34 := M1.1
  have A1 := mk_al (kd := .inr (4, 4)) M1
  have kA1 : gk (al H1 (.inr (4, 4))) 20 = some (.inl 11) := mk_k (q := (20, .inl 11)) A1 (by decide +kernel)
  have kT1 := mk_k (q := (20, .inl 11)) M1 (by decide +kernel)
  refine hP.1 _ _ sx_T_init_15 _ _ _ _ _ ?_
  simp (maxSteps := 1000000) (disch := omega) only [gx_T_init_15, slk, List.map_cons, List.map_nil, List.sum_cons, List.sum_nil, vc_i, vc_r, vc_n, vc_l, vc_o, Nat.add_zero, kO_e, kA_e, hdO_a, eq_self, blk, stp, lg, ls0, lk, ls1, ls2, kI_i, kL_l, kR_r, kR_n, kR_o, s1I_i, s2I_i, s1L_l, s2L_l, s1R_r, s1R_n, s1R_o, s1A_a, cmpc, popn, swt, rf_s, rf_n, cat_i, cat_r, cat_n, cat_l, true_and, and_true, List.length_cons, List.length_nil, Nat.zero_add, Int.reduceToNat, Nat.reduceAdd, Nat.reduceDiv, Nat.reduceMod, Nat.reduceMul, Nat.reduceSub, Nat.reduceLeDiff, Nat.reduceLT, Nat.reduceEqDiff, ↓reduceIte, r_gr_wi, r_gl_wi, r_gk_wi, r_gn_wi, r_wi_eq, r_wi_ne, r_wi_nj, r_gi_wr, r_gl_wr, r_gk_wr, r_gn_wr, r_gr_wa, r_gl_wa, r_gk_wa, r_gn_wa, aa_e, as_e, al_e, u_lt, u_le, u_gt, u_ge, u_lt0, u_le0, u_gt0, u_ge0, Classical.not_not, not_true_eq_false, not_false_eq_true, oi_n, oi_m, n_dec, nI_add, pk_mul, n_sub, n_eq, n_le, n_lt, n_eq0, n_lt0, n_le0, n_0lt, n_0le, n_eqm, m_eqn, n_ltm, n_and, n_or, n_xor, n_shl, n_shr, tb1, tb0, bP_1, bP_0, bP_n0, ix_n, inb_n, u_eq, u_eqm, e1, kA1, kT1]
  have B1 := mk_wr (a := 20) (f := 1) (v := 34) A1 ⟨by omega, by omega⟩ (by decide +kernel)
  generalize wr (al H1 (.inr (4, 4))) 20 1 (some 34) = H2 at B1 ⊢
  clear A1 e1 kA1 kT1
  have M2 : MKS h H2 35 tK2 tR2 tI2 tN2 := B1
  clear B1 M1
  have e2 : gn H2 = 35 := M2.1
  have Q2 := r_al_k H2 (.inl 9) e2
  have A2 := mk_al (kd := .inl 9) M2
  have kT2 := mk_k (q := (20, .inl 11)) M2 (by decide +kernel)
  obtain ⟨J2, j2⟩ : ∃ J, J = al H2 (.inl 9) := ⟨_, rfl⟩
  rw [← j2] at Q2 A2
  have kA2 := mk_k (q := (20, .inl 11)) A2 (by decide +kernel)
  refine hP.1 _ _ sx_T_init_23 _ _ _ _ _ ?_
  simp (maxSteps := 1000000) (disch := omega) only [gx_T_init_23, slk, List.map_cons, List.map_nil, List.sum_cons, List.sum_nil, vc_i, vc_r, vc_n, vc_l, vc_o, Nat.add_zero, kO_e, kA_e, hdO_a, eq_self, blk, stp, lg, ls0, lk, ls1, ls2, kI_i, kL_l, kR_r, kR_n, kR_o, s1I_i, s2I_i, s1L_l, s2L_l, s1R_r, s1R_n, s1R_o, s1A_a, cmpc, popn, swt, rf_s, rf_n, cat_i, cat_r, cat_n, cat_l, true_and, and_true, List.length_cons, List.length_nil, Nat.zero_add, Int.reduceToNat, Nat.reduceAdd, Nat.reduceDiv, Nat.reduceMod, Nat.reduceMul, Nat.reduceSub, Nat.reduceLeDiff, Nat.reduceLT, Nat.reduceEqDiff, ↓reduceIte, r_gr_wi, r_gl_wi, r_gk_wi, r_gn_wi, r_wi_eq, r_wi_ne, r_wi_nj, r_gi_wr, r_gl_wr, r_gk_wr, r_gn_wr, r_gr_wa, r_gl_wa, r_gk_wa, r_gn_wa, aa_e, as_e, al_e, u_lt, u_le, u_gt, u_ge, u_lt0, u_le0, u_gt0, u_ge0, Classical.not_not, not_true_eq_false, not_false_eq_true, oi_n, oi_m, n_dec, nI_add, pk_mul, n_sub, n_eq, n_le, n_lt, n_eq0, n_lt0, n_le0, n_0lt, n_0le, n_eqm, m_eqn, n_ltm, n_and, n_or, n_xor, n_shl, n_shr, tb1, tb0, bP_1, bP_0, bP_n0, ix_n, inb_n, u_eq, u_eqm, e2, nfc, ← j2, Q2.2.1, kA2, kT2]
  refine ⟨_, _, _, c_Tp_init Q2.1 Q2.2.1 Q2.2.2.1 (by omega), ⟨by omega, by omega⟩, ?_⟩
  rintro r G2 ⟨rfl, S2⟩
  simp (maxSteps := 1000000) (disch := omega) only [slk, List.map_cons, List.map_nil, List.sum_cons, List.sum_nil, vc_i, vc_r, vc_n, vc_l, vc_o, Nat.add_zero, kO_e, kA_e, hdO_a, eq_self, blk, stp, lg, ls0, lk, ls1, ls2, kI_i, kL_l, kR_r, kR_n, kR_o, s1I_i, s2I_i, s1L_l, s2L_l, s1R_r, s1R_n, s1R_o, s1A_a, cmpc, popn, swt, rf_s, rf_n, cat_i, cat_r, cat_n, cat_l, true_and, and_true, List.length_cons, List.length_nil, Nat.zero_add, Int.reduceToNat, Nat.reduceAdd, Nat.reduceDiv, Nat.reduceMod, Nat.reduceMul, Nat.reduceSub, Nat.reduceLeDiff, Nat.reduceLT, Nat.reduceEqDiff, ↓reduceIte, r_gr_wi, r_gl_wi, r_gk_wi, r_gn_wi, r_wi_eq, r_wi_ne, r_wi_nj, r_gi_wr, r_gl_wr, r_gk_wr, r_gn_wr, r_gr_wa, r_gl_wa, r_gk_wa, r_gn_wa, aa_e, as_e, al_e, u_lt, u_le, u_gt, u_ge, u_lt0, u_le0, u_gt0, u_ge0, Classical.not_not, not_true_eq_false, not_false_eq_true, oi_n, oi_m, n_dec, nI_add, pk_mul, n_sub, n_eq, n_le, n_lt, n_eq0, n_lt0, n_le0, n_0lt, n_0le, n_eqm, m_eqn, n_ltm, n_and, n_or, n_xor, n_shl, n_shr, tb1, tb0, bP_1, bP_0, bP_n0, ix_n, inb_n, u_eq, u_eqm, e2, nfc, ← j2, Q2.2.1, kA2, kT2]
  have C2 := mk_in (il := []) A2 S2 (by omega) (by decide +kernel) (g7_0 35)
  have kG2 := mk_k (q := (20, .inl 11)) C2 (by decide +kernel)
  refine hP.1 _ _ sx_T_init_31 _ _ _ _ _ ?_
  simp (maxSteps := 1000000) (disch := omega) only [gx_T_init_31, slk, List.map_cons, List.map_nil, List.sum_cons, List.sum_nil, vc_i, vc_r, vc_n, vc_l, vc_o, Nat.add_zero, kO_e, kA_e, hdO_a, eq_self, blk, stp, lg, ls0, lk, ls1, ls2, kI_i, kL_l, kR_r, kR_n, kR_o, s1I_i, s2I_i, s1L_l, s2L_l, s1R_r, s1R_n, s1R_o, s1A_a, cmpc, popn, swt, rf_s, rf_n, cat_i, cat_r, cat_n, cat_l, true_and, and_true, List.length_cons, List.length_nil, Nat.zero_add, Int.reduceToNat, Nat.reduceAdd, Nat.reduceDiv, Nat.reduceMod, Nat.reduceMul, Nat.reduceSub, Nat.reduceLeDiff, Nat.reduceLT, Nat.reduceEqDiff, ↓reduceIte, r_gr_wi, r_gl_wi, r_gk_wi, r_gn_wi, r_wi_eq, r_wi_ne, r_wi_nj, r_gi_wr, r_gl_wr, r_gk_wr, r_gn_wr, r_gr_wa, r_gl_wa, r_gk_wa, r_gn_wa, aa_e, as_e, al_e, u_lt, u_le, u_gt, u_ge, u_lt0, u_le0, u_gt0, u_ge0, Classical.not_not, not_true_eq_false, not_false_eq_true, oi_n, oi_m, n_dec, nI_add, pk_mul, n_sub, n_eq, n_le, n_lt, n_eq0, n_lt0, n_le0, n_0lt, n_0le, n_eqm, m_eqn, n_ltm, n_and, n_or, n_xor, n_shl, n_shr, tb1, tb0, bP_1, bP_0, bP_n0, ix_n, inb_n, u_eq, u_eqm, kG2]
  have B2 := mk_wr (a := 20) (f := 2) (v := 35) C2 ⟨by omega, by omega⟩ (by decide +kernel)
  generalize wr G2 20 2 (some 35) = H3 at B2 ⊢
  have M3 : MKS h H3 37 tK3 tR3 tI3 tN3 := B2
  clear B2 M2
  have e3 : gn H3 = 37 := M3.1
  have Q3 := r_al_k H3 (.inl 6) e3
  have A3 := mk_al (kd := .inl 6) M3
  have kT3 := mk_k (q := (20, .inl 11)) M3 (by decide +kernel)
  obtain ⟨J3, j3⟩ : ∃ J, J = al H3 (.inl 6) := ⟨_, rfl⟩
  rw [← j3] at Q3 A3
  have kA3 := mk_k (q := (20, .inl 11)) A3 (by decide +kernel)
  have r3_0 := mk_r (q := (20, 2, 35)) A3 (by decide +kernel)
  refine hP.1 _ _ sx_T_init_34 _ _ _ _ _ ?_
  simp (maxSteps := 1000000) (disch := omega) only [gx_T_init_34, slk, List.map_cons, List.map_nil, List.sum_cons, List.sum_nil, vc_i, vc_r, vc_n, vc_l, vc_o, Nat.add_zero, kO_e, kA_e, hdO_a, eq_self, blk, stp, lg, ls0, lk, ls1, ls2, kI_i, kL_l, kR_r, kR_n, kR_o, s1I_i, s2I_i, s1L_l, s2L_l, s1R_r, s1R_n, s1R_o, s1A_a, cmpc, popn, swt, rf_s, rf_n, cat_i, cat_r, cat_n, cat_l, true_and, and_true, List.length_cons, List.length_nil, Nat.zero_add, Int.reduceToNat, Nat.reduceAdd, Nat.reduceDiv, Nat.reduceMod, Nat.reduceMul, Nat.reduceSub, Nat.reduceLeDiff, Nat.reduceLT, Nat.reduceEqDiff, ↓reduceIte, r_gr_wi, r_gl_wi, r_gk_wi, r_gn_wi, r_wi_eq, r_wi_ne, r_wi_nj, r_gi_wr, r_gl_wr, r_gk_wr, r_gn_wr, r_gr_wa, r_gl_wa, r_gk_wa, r_gn_wa, aa_e, as_e, al_e, u_lt, u_le, u_gt, u_ge, u_lt0, u_le0, u_gt0, u_ge0, Classical.not_not, not_true_eq_false, not_false_eq_true, oi_n, oi_m, n_dec, nI_add, pk_mul, n_sub, n_eq, n_le, n_lt, n_eq0, n_lt0, n_le0, n_0lt, n_0le, n_eqm, m_eqn, n_ltm, n_and, n_or, n_xor, n_shl, n_shr, tb1, tb0, bP_1, bP_0, bP_n0, ix_n, inb_n, u_eq, u_eqm, e3, nfc, ← j3, Q3.2.1, kA3, kT3, r3_0]
  refine ⟨_, _, _, c_Re_init (r1 := 35) Q3.1 Q3.2.1 Q3.2.2.1 (by omega), ⟨by omega, by omega⟩, ?_⟩
  rintro r G3 ⟨rfl, S3⟩
  simp (maxSteps := 1000000) (disch := omega) only [slk, List.map_cons, List.map_nil, List.sum_cons, List.sum_nil, vc_i, vc_r, vc_n, vc_l, vc_o, Nat.add_zero, kO_e, kA_e, hdO_a, eq_self, blk, stp, lg, ls0, lk, ls1, ls2, kI_i, kL_l, kR_r, kR_n, kR_o, s1I_i, s2I_i, s1L_l, s2L_l, s1R_r, s1R_n, s1R_o, s1A_a, cmpc, popn, swt, rf_s, rf_n, cat_i, cat_r, cat_n, cat_l, true_and, and_true, List.length_cons, List.length_nil, Nat.zero_add, Int.reduceToNat, Nat.reduceAdd, Nat.reduceDiv, Nat.reduceMod, Nat.reduceMul, Nat.reduceSub, Nat.reduceLeDiff, Nat.reduceLT, Nat.reduceEqDiff, ↓reduceIte, r_gr_wi, r_gl_wi, r_gk_wi, r_gn_wi, r_wi_eq, r_wi_ne, r_wi_nj, r_gi_wr, r_gl_wr, r_gk_wr, r_gn_wr, r_gr_wa, r_gl_wa, r_gk_wa, r_gn_wa, aa_e, as_e, al_e, u_lt, u_le, u_gt, u_ge, u_lt0, u_le0, u_gt0, u_ge0, Classical.not_not, not_true_eq_false, not_false_eq_true, oi_n, oi_m, n_dec, nI_add, pk_mul, n_sub, n_eq, n_le, n_lt, n_eq0, n_lt0, n_le0, n_0lt, n_0le, n_eqm, m_eqn, n_ltm, n_and, n_or, n_xor, n_shl, n_shr, tb1, tb0, bP_1, bP_0, bP_n0, ix_n, inb_n, u_eq, u_eqm, e3, nfc, ← j3, Q3.2.1, kA3, kT3, r3_0]
  have C3 := mk_in (il := []) A3 S3 (by omega) (by decide +kernel) (g7_0 37)
  have kG3 := mk_k (q := (20, .inl 11)) C3 (by decide +kernel)
  refine hP.1 _ _ sx_T_init_46 _ _ _ _ _ ?_
  simp (maxSteps := 1000000) (disch := omega) only [gx_T_init_46, slk, List.map_cons, List.map_nil, List.sum_cons, List.sum_nil, vc_i, vc_r, vc_n, vc_l, vc_o, Nat.add_zero, kO_e, kA_e, hdO_a, eq_self, blk, stp, lg, ls0, lk, ls1, ls2, kI_i, kL_l, kR_r, kR_n, kR_o, s1I_i, s2I_i, s1L_l, s2L_l, s1R_r, s1R_n, s1R_o, s1A_a, cmpc, popn, swt, rf_s, rf_n, cat_i, cat_r, cat_n, cat_l, true_and, and_true, List.length_cons, List.length_nil, Nat.zero_add, Int.reduceToNat, Nat.reduceAdd, Nat.reduceDiv, Nat.reduceMod, Nat.reduceMul, Nat.reduceSub, Nat.reduceLeDiff, Nat.reduceLT, Nat.reduceEqDiff, ↓reduceIte, r_gr_wi, r_gl_wi, r_gk_wi, r_gn_wi, r_wi_eq, r_wi_ne, r_wi_nj, r_gi_wr, r_gl_wr, r_gk_wr, r_gn_wr, r_gr_wa, r_gl_wa, r_gk_wa, r_gn_wa, aa_e, as_e, al_e, u_lt, u_le, u_gt, u_ge, u_lt0, u_le0, u_gt0, u_ge0, Classical.not_not, not_true_eq_false, not_false_eq_true, oi_n, oi_m, n_dec, nI_add, pk_mul, n_sub, n_eq, n_le, n_lt, n_eq0, n_lt0, n_le0, n_0lt, n_0le, n_eqm, m_eqn, n_ltm, n_and, n_or, n_xor, n_shl, n_shr, tb1, tb0, bP_1, bP_0, bP_n0, ix_n, inb_n, u_eq, u_eqm, kG3]
  have B3 := mk_wr (a := 20) (f := 3) (v := 37) C3 ⟨by omega, by omega⟩ (by decide +kernel)
  generalize wr G3 20 3 (some 37) = H4 at B3 ⊢
  have M4 : MKS h H4 40 tK4 tR4 tI4 tN4 := B3
  clear B3 M3
  have e4 : gn H4 = 40 := M4.1
  have A4 := mk_al (kd := .inr (5, 8)) M4
  have kA4 : gk (al H4 (.inr (5, 8))) 20 = some (.inl 11) := mk_k (q := (20, .inl 11)) A4 (by decide +kernel)
  have kT4 := mk_k (q := (20, .inl 11)) M4 (by decide +kernel)
  refine hP.1 _ _ sx_T_init_49 _ _ _ _ _ ?_
  simp (maxSteps := 1000000) (disch := omega) only [gx_T_init_49, slk, List.map_cons, List.map_nil, List.sum_cons, List.sum_nil, vc_i, vc_r, vc_n, vc_l, vc_o, Nat.add_zero, kO_e, kA_e, hdO_a, eq_self, blk, stp, lg, ls0, lk, ls1, ls2, kI_i, kL_l, kR_r, kR_n, kR_o, s1I_i, s2I_i, s1L_l, s2L_l, s1R_r, s1R_n, s1R_o, s1A_a, cmpc, popn, swt, rf_s, rf_n, cat_i, cat_r, cat_n, cat_l, true_and, and_true, List.length_cons, List.length_nil, Nat.zero_add, Int.reduceToNat, Nat.reduceAdd, Nat.reduceDiv, Nat.reduceMod, Nat.reduceMul, Nat.reduceSub, Nat.reduceLeDiff, Nat.reduceLT, Nat.reduceEqDiff, ↓reduceIte, r_gr_wi, r_gl_wi, r_gk_wi, r_gn_wi, r_wi_eq, r_wi_ne, r_wi_nj, r_gi_wr, r_gl_wr, r_gk_wr, r_gn_wr, r_gr_wa, r_gl_wa, r_gk_wa, r_gn_wa, aa_e, as_e, al_e, u_lt, u_le, u_gt, u_ge, u_lt0, u_le0, u_gt0, u_ge0, Classical.not_not, not_true_eq_false, not_false_eq_true, oi_n, oi_m, n_dec, nI_add, pk_mul, n_sub, n_eq, n_le, n_lt, n_eq0, n_lt0, n_le0, n_0lt, n_0le, n_eqm, m_eqn, n_ltm, n_and, n_or, n_xor, n_shl, n_shr, tb1, tb0, bP_1, bP_0, bP_n0, ix_n, inb_n, u_eq, u_eqm, e4, kA4, kT4]
  have B4 := mk_wr (a := 20) (f := 4) (v := 40) A4 ⟨by omega, by omega⟩ (by decide +kernel)
  generalize wr (al H4 (.inr (5, 8))) 20 4 (some 40) = H5 at B4 ⊢
  clear A4 e4 kA4 kT4
  have M5 : MKS h H5 41 tK5 tR5 tI5 tN5 := B4
  clear B4 M4
  have e5 : gn H5 = 41 := M5.1
  have A5 := mk_al (kd := .inr (5, 8)) M5
  have kA5 : gk (al H5 (.inr (5, 8))) 20 = some (.inl 11) := mk_k (q := (20, .inl 11)) A5 (by decide +kernel)
  have kT5 := mk_k (q := (20, .inl 11)) M5 (by decide +kernel)
  refine hP.1 _ _ sx_T_init_58 _ _ _ _ _ ?_
  simp (maxSteps := 1000000) (disch := omega) only [gx_T_init_58, slk, List.map_cons, List.map_nil, List.sum_cons, List.sum_nil, vc_i, vc_r, vc_n, vc_l, vc_o, Nat.add_zero, kO_e, kA_e, hdO_a, eq_self, blk, stp, lg, ls0, lk, ls1, ls2, kI_i, kL_l, kR_r, kR_n, kR_o, s1I_i, s2I_i, s1L_l, s2L_l, s1R_r, s1R_n, s1R_o, s1A_a, cmpc, popn, swt, rf_s, rf_n, cat_i, cat_r, cat_n, cat_l, true_and, and_true, List.length_cons, List.length_nil, Nat.zero_add, Int.reduceToNat, Nat.reduceAdd, Nat.reduceDiv, Nat.reduceMod, Nat.reduceMul, Nat.reduceSub, Nat.reduceLeDiff, Nat.reduceLT, Nat.reduceEqDiff, ↓reduceIte, r_gr_wi, r_gl_wi, r_gk_wi, r_gn_wi, r_wi_eq, r_wi_ne, r_wi_nj, r_gi_wr, r_gl_wr, r_gk_wr, r_gn_wr, r_gr_wa, r_gl_wa, r_gk_wa, r_gn_wa, aa_e, as_e, al_e, u_lt, u_le, u_gt, u_ge, u_lt0, u_le0, u_gt0, u_ge0, Classical.not_not, not_true_eq_false, not_false_eq_true, oi_n, oi_m, n_dec, nI_add, pk_mul, n_sub, n_eq, n_le, n_lt, n_eq0, n_lt0, n_le0, n_0lt, n_0le, n_eqm, m_eqn, n_ltm, n_and, n_or, n_xor, n_shl, n_shr, tb1, tb0, bP_1, bP_0, bP_n0, ix_n, inb_n, u_eq, u_eqm, e5, kA5, kT5]
  have B5 := mk_wr (a := 20) (f := 5) (v := 41) A5 ⟨by omega, by omega⟩ (by decide +kernel)
  generalize wr (al H5 (.inr (5, 8))) 20 5 (some 41) = H6 at B5 ⊢
  clear A5 e5 kA5 kT5
  have M6 : MKS h H6 42 tK6 tR6 tI6 tN6 := B5
  clear B5 M5
  have e6 : gn H6 = 42 := M6.1
  have Q6 := r_al_k H6 (.inl 7) e6
  have A6 := mk_al (kd := .inl 7) M6
  have kT6 := mk_k (q := (20, .inl 11)) M6 (by decide +kernel)
  obtain ⟨J6, j6⟩ : ∃ J, J = al H6 (.inl 7) := ⟨_, rfl⟩
  rw [← j6] at Q6 A6
  have kA6 := mk_k (q := (20, .inl 11)) A6 (by decide +kernel)
  refine hP.1 _ _ sx_T_init_67 _ _ _ _ _ ?_
  simp (maxSteps := 1000000) (disch := omega) only [gx_T_init_67, slk, List.map_cons, List.map_nil, List.sum_cons, List.sum_nil, vc_i, vc_r, vc_n, vc_l, vc_o, Nat.add_zero, kO_e, kA_e, hdO_a, eq_self, blk, stp, lg, ls0, lk, ls1, ls2, kI_i, kL_l, kR_r, kR_n, kR_o, s1I_i, s2I_i, s1L_l, s2L_l, s1R_r, s1R_n, s1R_o, s1A_a, cmpc, popn, swt, rf_s, rf_n, cat_i, cat_r, cat_n, cat_l, true_and, and_true, List.length_cons, List.length_nil, Nat.zero_add, Int.reduceToNat, Nat.reduceAdd, Nat.reduceDiv, Nat.reduceMod, Nat.reduceMul, Nat.reduceSub, Nat.reduceLeDiff, Nat.reduceLT, Nat.reduceEqDiff, ↓reduceIte, r_gr_wi, r_gl_wi, r_gk_wi, r_gn_wi, r_wi_eq, r_wi_ne, r_wi_nj, r_gi_wr, r_gl_wr, r_gk_wr, r_gn_wr, r_gr_wa, r_gl_wa, r_gk_wa, r_gn_wa, aa_e, as_e, al_e, u_lt, u_le, u_gt, u_ge, u_lt0, u_le0, u_gt0, u_ge0, Classical.not_not, not_true_eq_false, not_false_eq_true, oi_n, oi_m, n_dec, nI_add, pk_mul, n_sub, n_eq, n_le, n_lt, n_eq0, n_lt0, n_le0, n_0lt, n_0le, n_eqm, m_eqn, n_ltm, n_and, n_or, n_xor, n_shl, n_shr, tb1, tb0, bP_1, bP_0, bP_n0, ix_n, inb_n, u_eq, u_eqm, e6, nfc, ← j6, Q6.2.1, kA6, kT6]
  refine ⟨_, _, _, c_Sc_init Q6.1 Q6.2.1 Q6.2.2.1 (by omega), ⟨by omega, by omega⟩, ?_⟩
  rintro r G6 ⟨rfl, S6⟩
  simp (maxSteps := 1000000) (disch := omega) only [slk, List.map_cons, List.map_nil, List.sum_cons, List.sum_nil, vc_i, vc_r, vc_n, vc_l, vc_o, Nat.add_zero, kO_e, kA_e, hdO_a, eq_self, blk, stp, lg, ls0, lk, ls1, ls2, kI_i, kL_l, kR_r, kR_n, kR_o, s1I_i, s2I_i, s1L_l, s2L_l, s1R_r, s1R_n, s1R_o, s1A_a, cmpc, popn, swt, rf_s, rf_n, cat_i, cat_r, cat_n, cat_l, true_and, and_true, List.length_cons, List.length_nil, Nat.zero_add, Int.reduceToNat, Nat.reduceAdd, Nat.reduceDiv, Nat.reduceMod, Nat.reduceMul, Nat.reduceSub, Nat.reduceLeDiff, Nat.reduceLT, Nat.reduceEqDiff, ↓reduceIte, r_gr_wi, r_gl_wi, r_gk_wi, r_gn_wi, r_wi_eq, r_wi_ne, r_wi_nj, r_gi_wr, r_gl_wr, r_gk_wr, r_gn_wr, r_gr_wa, r_gl_wa, r_gk_wa, r_gn_wa, aa_e, as_e, al_e, u_lt, u_le, u_gt, u_ge, u_lt0, u_le0, u_gt0, u_ge0, Classical.not_not, not_true_eq_false, not_false_eq_true, oi_n, oi_m, n_dec, nI_add, pk_mul, n_sub, n_eq, n_le, n_lt, n_eq0, n_lt0, n_le0, n_0lt, n_0le, n_eqm, m_eqn, n_ltm, n_and, n_or, n_xor, n_shl, n_shr, tb1, tb0, bP_1, bP_0, bP_n0, ix_n, inb_n, u_eq, u_eqm, e6, nfc, ← j6, Q6.2.1, kA6, kT6]
  have C6 := mk_in (il := []) A6 S6 (by omega) (by decide +kernel) (g7_0 42)
  have kG6 := mk_k (q := (20, .inl 11)) C6 (by decide +kernel)
  refine hP.1 _ _ sx_T_init_75 _ _ _ _ _ ?_
  simp (maxSteps := 1000000) (disch := omega) only [gx_T_init_75, slk, List.map_cons, List.map_nil, List.sum_cons, List.sum_nil, vc_i, vc_r, vc_n, vc_l, vc_o, Nat.add_zero, kO_e, kA_e, hdO_a, eq_self, blk, stp, lg, ls0, lk, ls1, ls2, kI_i, kL_l, kR_r, kR_n, kR_o, s1I_i, s2I_i, s1L_l, s2L_l, s1R_r, s1R_n, s1R_o, s1A_a, cmpc, popn, swt, rf_s, rf_n, cat_i, cat_r, cat_n, cat_l, true_and, and_true, List.length_cons, List.length_nil, Nat.zero_add, Int.reduceToNat, Nat.reduceAdd, Nat.reduceDiv, Nat.reduceMod, Nat.reduceMul, Nat.reduceSub, Nat.reduceLeDiff, Nat.reduceLT, Nat.reduceEqDiff, ↓reduceIte, r_gr_wi, r_gl_wi, r_gk_wi, r_gn_wi, r_wi_eq, r_wi_ne, r_wi_nj, r_gi_wr, r_gl_wr, r_gk_wr, r_gn_wr, r_gr_wa, r_gl_wa, r_gk_wa, r_gn_wa, aa_e, as_e, al_e, u_lt, u_le, u_gt, u_ge, u_lt0, u_le0, u_gt0, u_ge0, Classical.not_not, not_true_eq_false, not_false_eq_true, oi_n, oi_m, n_dec, nI_add, pk_mul, n_sub, n_eq, n_le, n_lt, n_eq0, n_lt0, n_le0, n_0lt, n_0le, n_eqm, m_eqn, n_ltm, n_and, n_or, n_xor, n_shl, n_shr, tb1, tb0, bP_1, bP_0, bP_n0, ix_n, inb_n, u_eq, u_eqm, kG6]
  have B6 := mk_wr (a := 20) (f := 6) (v := 42) C6 ⟨by omega, by omega⟩ (by decide +kernel)
  generalize wr G6 20 6 (some 42) = H7 at B6 ⊢
  have M7 : MKS h H7 45 tK7 tR7 tI7 tN7 := B6
  clear B6 M6
  have e7 : gn H7 = 45 := M7.1
  have A7 := mk_al (kd := .inr (6, 4)) M7
  have kA7 : gk (al H7 (.inr (6, 4))) 20 = some (.inl 11) := mk_k (q := (20, .inl 11)) A7 (by decide +kernel)
  have kT7 := mk_k (q := (20, .inl 11)) M7 (by decide +kernel)
  refine hP.1 _ _ sx_T_init_78 _ _ _ _ _ ?_
  simp (maxSteps := 1000000) (disch := omega) only [gx_T_init_78, slk, List.map_cons, List.map_nil, List.sum_cons, List.sum_nil, vc_i, vc_r, vc_n, vc_l, vc_o, Nat.add_zero, kO_e, kA_e, hdO_a, eq_self, blk, stp, lg, ls0, lk, ls1, ls2, kI_i, kL_l, kR_r, kR_n, kR_o, s1I_i, s2I_i, s1L_l, s2L_l, s1R_r, s1R_n, s1R_o, s1A_a, cmpc, popn, swt, rf_s, rf_n, cat_i, cat_r, cat_n, cat_l, true_and, and_true, List.length_cons, List.length_nil, Nat.zero_add, Int.reduceToNat, Nat.reduceAdd, Nat.reduceDiv, Nat.reduceMod, Nat.reduceMul, Nat.reduceSub, Nat.reduceLeDiff, Nat.reduceLT, Nat.reduceEqDiff, ↓reduceIte, r_gr_wi, r_gl_wi, r_gk_wi, r_gn_wi, r_wi_eq, r_wi_ne, r_wi_nj, r_gi_wr, r_gl_wr, r_gk_wr, r_gn_wr, r_gr_wa, r_gl_wa, r_gk_wa, r_gn_wa, aa_e, as_e, al_e, u_lt, u_le, u_gt, u_ge, u_lt0, u_le0, u_gt0, u_ge0, Classical.not_not, not_true_eq_false, not_false_eq_true, oi_n, oi_m, n_dec, nI_add, pk_mul, n_sub, n_eq, n_le, n_lt, n_eq0, n_lt0, n_le0, n_0lt, n_0le, n_eqm, m_eqn, n_ltm, n_and, n_or, n_xor, n_shl, n_shr, tb1, tb0, bP_1, bP_0, bP_n0, ix_n, inb_n, u_eq, u_eqm, e7, kA7, kT7]
  have B7 := mk_wr (a := 20) (f := 7) (v := 45) A7 ⟨by omega, by omega⟩ (by decide +kernel)
  generalize wr (al H7 (.inr (6, 4))) 20 7 (some 45) = H8 at B7 ⊢
  clear A7 e7 kA7 kT7
  have M8 : MKS h H8 46 tK8 tR8 tI8 tN8 := B7
  clear B7 M7
  have e8 : gn H8 = 46 := M8.1
  have Q8 := r_al_k H8 (.inl 8) e8
  have A8 := mk_al (kd := .inl 8) M8
  have kT8 := mk_k (q := (20, .inl 11)) M8 (by decide +kernel)
  obtain ⟨J8, j8⟩ : ∃ J, J = al H8 (.inl 8) := ⟨_, rfl⟩
  rw [← j8] at Q8 A8
  have kA8 := mk_k (q := (20, .inl 11)) A8 (by decide +kernel)
  have r8_0 := mk_r (q := (20, 0, 21)) A8 (by decide +kernel)
  have r8_1 := mk_r (q := (20, 5, 41)) A8 (by decide +kernel)
  have r8_2 := mk_r (q := (20, 6, 42)) A8 (by decide +kernel)
  refine hP.1 _ _ sx_T_init_86 _ _ _ _ _ ?_
  simp (maxSteps := 1000000) (disch := omega) only [gx_T_init_86, slk, List.map_cons, List.map_nil, List.sum_cons, List.sum_nil, vc_i, vc_r, vc_n, vc_l, vc_o, Nat.add_zero, kO_e, kA_e, hdO_a, eq_self, blk, stp, lg, ls0, lk, ls1, ls2, kI_i, kL_l, kR_r, kR_n, kR_o, s1I_i, s2I_i, s1L_l, s2L_l, s1R_r, s1R_n, s1R_o, s1A_a, cmpc, popn, swt, rf_s, rf_n, cat_i, cat_r, cat_n, cat_l, true_and, and_true, List.length_cons, List.length_nil, Nat.zero_add, Int.reduceToNat, Nat.reduceAdd, Nat.reduceDiv, Nat.reduceMod, Nat.reduceMul, Nat.reduceSub, Nat.reduceLeDiff, Nat.reduceLT, Nat.reduceEqDiff, ↓reduceIte, r_gr_wi, r_gl_wi, r_gk_wi, r_gn_wi, r_wi_eq, r_wi_ne, r_wi_nj, r_gi_wr, r_gl_wr, r_gk_wr, r_gn_wr, r_gr_wa, r_gl_wa, r_gk_wa, r_gn_wa, aa_e, as_e, al_e, u_lt, u_le, u_gt, u_ge, u_lt0, u_le0, u_gt0, u_ge0, Classical.not_not, not_true_eq_false, not_false_eq_true, oi_n, oi_m, n_dec, nI_add, pk_mul, n_sub, n_eq, n_le, n_lt, n_eq0, n_lt0, n_le0, n_0lt, n_0le, n_eqm, m_eqn, n_ltm, n_and, n_or, n_xor, n_shl, n_shr, tb1, tb0, bP_1, bP_0, bP_n0, ix_n, inb_n, u_eq, u_eqm, e8, nfc, ← j8, Q8.2.1, kA8, kT8, r8_0, r8_1, r8_2]
  refine ⟨_, _, _, c_Ta_init (r1 := 21) (r2 := 41) (r3 := 42) Q8.1 Q8.2.1 Q8.2.2.1 (by omega), ⟨by omega, by omega⟩, ?_⟩
  rintro r G8 ⟨rfl, S8⟩
  simp (maxSteps := 1000000) (disch := omega) only [slk, List.map_cons, List.map_nil, List.sum_cons, List.sum_nil, vc_i, vc_r, vc_n, vc_l, vc_o, Nat.add_zero, kO_e, kA_e, hdO_a, eq_self, blk, stp, lg, ls0, lk, ls1, ls2, kI_i, kL_l, kR_r, kR_n, kR_o, s1I_i, s2I_i, s1L_l, s2L_l, s1R_r, s1R_n, s1R_o, s1A_a, cmpc, popn, swt, rf_s, rf_n, cat_i, cat_r, cat_n, cat_l, true_and, and_true, List.length_cons, List.length_nil, Nat.zero_add, Int.reduceToNat, Nat.reduceAdd, Nat.reduceDiv, Nat.reduceMod, Nat.reduceMul, Nat.reduceSub, Nat.reduceLeDiff, Nat.reduceLT, Nat.reduceEqDiff, ↓reduceIte, r_gr_wi, r_gl_wi, r_gk_wi, r_gn_wi, r_wi_eq, r_wi_ne, r_wi_nj, r_gi_wr, r_gl_wr, r_gk_wr, r_gn_wr, r_gr_wa, r_gl_wa, r_gk_wa, r_gn_wa, aa_e, as_e, al_e, u_lt, u_le, u_gt, u_ge, u_lt0, u_le0, u_gt0, u_ge0, Classical.not_not, not_true_eq_false, not_false_eq_true, oi_n, oi_m, n_dec, nI_add, pk_mul, n_sub, n_eq, n_le, n_lt, n_eq0, n_lt0, n_le0, n_0lt, n_0le, n_eqm, m_eqn, n_ltm, n_and, n_or, n_xor, n_shl, n_shr, tb1, tb0, bP_1, bP_0, bP_n0, ix_n, inb_n, u_eq, u_eqm, e8, nfc, ← j8, Q8.2.1, kA8, kT8, r8_0, r8_1, r8_2]
  have C8 := mk_in (il := [(46, 17)]) A8 S8 (by omega) (by decide +kernel) (g7_17 46)
  have kG8 := mk_k (q := (20, .inl 11)) C8 (by decide +kernel)
  refine hP.1 _ _ sx_T_init_106 _ _ _ _ _ ?_
  simp (maxSteps := 1000000) (disch := omega) only [gx_T_init_106, slk, List.map_cons, List.map_nil, List.sum_cons, List.sum_nil, vc_i, vc_r, vc_n, vc_l, vc_o, Nat.add_zero, kO_e, kA_e, hdO_a, eq_self, blk, stp, lg, ls0, lk, ls1, ls2, kI_i, kL_l, kR_r, kR_n, kR_o, s1I_i, s2I_i, s1L_l, s2L_l, s1R_r, s1R_n, s1R_o, s1A_a, cmpc, popn, swt, rf_s, rf_n, cat_i, cat_r, cat_n, cat_l, true_and, and_true, List.length_cons, List.length_nil, Nat.zero_add, Int.reduceToNat, Nat.reduceAdd, Nat.reduceDiv, Nat.reduceMod, Nat.reduceMul, Nat.reduceSub, Nat.reduceLeDiff, Nat.reduceLT, Nat.reduceEqDiff, ↓reduceIte, r_gr_wi, r_gl_wi, r_gk_wi, r_gn_wi, r_wi_eq, r_wi_ne, r_wi_nj, r_gi_wr, r_gl_wr, r_gk_wr, r_gn_wr, r_gr_wa, r_gl_wa, r_gk_wa, r_gn_wa, aa_e, as_e, al_e, u_lt, u_le, u_gt, u_ge, u_lt0, u_le0, u_gt0, u_ge0, Classical.not_not, not_true_eq_false, not_false_eq_true, oi_n, oi_m, n_dec, nI_add, pk_mul, n_sub, n_eq, n_le, n_lt, n_eq0, n_lt0, n_le0, n_0lt, n_0le, n_eqm, m_eqn, n_ltm, n_and, n_or, n_xor, n_shl, n_shr, tb1, tb0, bP_1, bP_0, bP_n0, ix_n, inb_n, u_eq, u_eqm, kG8]
  have B8 := mk_wr (a := 20) (f := 8) (v := 46) C8 ⟨by omega, by omega⟩ (by decide +kernel)
  generalize wr G8 20 8 (some 46) = H9 at B8 ⊢
  have M9 : MKS h H9 54 tK9 tR9 tI9 tN9 := B8
  clear B8 M8
  have e9 : gn H9 = 54 := M9.1
  have Q9 := r_al_k H9 (.inl 5) e9
  have A9 := mk_al (kd := .inl 5) M9
  have kT9 := mk_k (q := (20, .inl 11)) M9 (by decide +kernel)
  obtain ⟨J9, j9⟩ : ∃ J, J = al H9 (.inl 5) := ⟨_, rfl⟩
  rw [← j9] at Q9 A9
  have kA9 := mk_k (q := (20, .inl 11)) A9 (by decide +kernel)
  have r9_0 := mk_r (q := (20, 7, 45)) A9 (by decide +kernel)
  refine hP.1 _ _ sx_T_init_109 _ _ _ _ _ ?_
  simp (maxSteps := 1000000) (disch := omega) only [gx_T_init_109, slk, List.map_cons, List.map_nil, List.sum_cons, List.sum_nil, vc_i, vc_r, vc_n, vc_l, vc_o, Nat.add_zero, kO_e, kA_e, hdO_a, eq_self, blk, stp, lg, ls0, lk, ls1, ls2, kI_i, kL_l, kR_r, kR_n, kR_o, s1I_i, s2I_i, s1L_l, s2L_l, s1R_r, s1R_n, s1R_o, s1A_a, cmpc, popn, swt, rf_s, rf_n, cat_i, cat_r, cat_n, cat_l, true_and, and_true, List.length_cons, List.length_nil, Nat.zero_add, Int.reduceToNat, Nat.reduceAdd, Nat.reduceDiv, Nat.reduceMod, Nat.reduceMul, Nat.reduceSub, Nat.reduceLeDiff, Nat.reduceLT, Nat.reduceEqDiff, ↓reduceIte, r_gr_wi, r_gl_wi, r_gk_wi, r_gn_wi, r_wi_eq, r_wi_ne, r_wi_nj, r_gi_wr, r_gl_wr, r_gk_wr, r_gn_wr, r_gr_wa, r_gl_wa, r_gk_wa, r_gn_wa, aa_e, as_e, al_e, u_lt, u_le, u_gt, u_ge, u_lt0, u_le0, u_gt0, u_ge0, Classical.not_not, not_true_eq_false, not_false_eq_true, oi_n, oi_m, n_dec, nI_add, pk_mul, n_sub, n_eq, n_le, n_lt, n_eq0, n_lt0, n_le0, n_0lt, n_0le, n_eqm, m_eqn, n_ltm, n_and, n_or, n_xor, n_shl, n_shr, tb1, tb0, bP_1, bP_0, bP_n0, ix_n, inb_n, u_eq, u_eqm, e9, nfc, ← j9, Q9.2.1, kA9, kT9, r9_0]
  refine ⟨_, _, _, c_Pl_init (r1 := 45) Q9.1 Q9.2.1 Q9.2.2.1 (by omega), ⟨by omega, by omega⟩, ?_⟩
  rintro r G9 ⟨rfl, S9⟩
  simp (maxSteps := 1000000) (disch := omega) only [slk, List.map_cons, List.map_nil, List.sum_cons, List.sum_nil, vc_i, vc_r, vc_n, vc_l, vc_o, Nat.add_zero, kO_e, kA_e, hdO_a, eq_self, blk, stp, lg, ls0, lk, ls1, ls2, kI_i, kL_l, kR_r, kR_n, kR_o, s1I_i, s2I_i, s1L_l, s2L_l, s1R_r, s1R_n, s1R_o, s1A_a, cmpc, popn, swt, rf_s, rf_n, cat_i, cat_r, cat_n, cat_l, true_and, and_true, List.length_cons, List.length_nil, Nat.zero_add, Int.reduceToNat, Nat.reduceAdd, Nat.reduceDiv, Nat.reduceMod, Nat.reduceMul, Nat.reduceSub, Nat.reduceLeDiff, Nat.reduceLT, Nat.reduceEqDiff, ↓reduceIte, r_gr_wi, r_gl_wi, r_gk_wi, r_gn_wi, r_wi_eq, r_wi_ne, r_wi_nj, r_gi_wr, r_gl_wr, r_gk_wr, r_gn_wr, r_gr_wa, r_gl_wa, r_gk_wa, r_gn_wa, aa_e, as_e, al_e, u_lt, u_le, u_gt, u_ge, u_lt0, u_le0, u_gt0, u_ge0, Classical.not_not, not_true_eq_false, not_false_eq_true, oi_n, oi_m, n_dec, nI_add, pk_mul, n_sub, n_eq, n_le, n_lt, n_eq0, n_lt0, n_le0, n_0lt, n_0le, n_eqm, m_eqn, n_ltm, n_and, n_or, n_xor, n_shl, n_shr, tb1, tb0, bP_1, bP_0, bP_n0, ix_n, inb_n, u_eq, u_eqm, e9, nfc, ← j9, Q9.2.1, kA9, kT9, r9_0]
  have C9 := mk_in (il := []) A9 S9 (by omega) (by decide +kernel) (g7_0 54)
  have kG9 := mk_k (q := (20, .inl 11)) C9 (by decide +kernel)
  refine hP.1 _ _ sx_T_init_121 _ _ _ _ _ ?_
  simp (maxSteps := 1000000) (disch := omega) only [gx_T_init_121, slk, List.map_cons, List.map_nil, List.sum_cons, List.sum_nil, vc_i, vc_r, vc_n, vc_l, vc_o, Nat.add_zero, kO_e, kA_e, hdO_a, eq_self, blk, stp, lg, ls0, lk, ls1, ls2, kI_i, kL_l, kR_r, kR_n, kR_o, s1I_i, s2I_i, s1L_l, s2L_l, s1R_r, s1R_n, s1R_o, s1A_a, cmpc, popn, swt, rf_s, rf_n, cat_i, cat_r, cat_n, cat_l, true_and, and_true, List.length_cons, List.length_nil, Nat.zero_add, Int.reduceToNat, Nat.reduceAdd, Nat.reduceDiv, Nat.reduceMod, Nat.reduceMul, Nat.reduceSub, Nat.reduceLeDiff, Nat.reduceLT, Nat.reduceEqDiff, ↓reduceIte, r_gr_wi, r_gl_wi, r_gk_wi, r_gn_wi, r_wi_eq, r_wi_ne, r_wi_nj, r_gi_wr, r_gl_wr, r_gk_wr, r_gn_wr, r_gr_wa, r_gl_wa, r_gk_wa, r_gn_wa, aa_e, as_e, al_e, u_lt, u_le, u_gt, u_ge, u_lt0, u_le0, u_gt0, u_ge0, Classical.not_not, not_true_eq_false, not_false_eq_true, oi_n, oi_m, n_dec, nI_add, pk_mul, n_sub, n_eq, n_le, n_lt, n_eq0, n_lt0, n_le0, n_0lt, n_0le, n_eqm, m_eqn, n_ltm, n_and, n_or, n_xor, n_shl, n_shr, tb1, tb0, bP_1, bP_0, bP_n0, ix_n, inb_n, u_eq, u_eqm, kG9]
  have B9 := mk_wr (a := 20) (f := 9) (v := 54) C9 ⟨by omega, by omega⟩ (by decide +kernel)
  generalize wr G9 20 9 (some 54) = H10 at B9 ⊢
  have M10 : MKS h H10 59 tK10 tR10 tI10 tN10 := B9
  clear B9 M9
  have e10 : gn H10 = 59 := M10.1
  have Q10 := r_al_k H10 (.inl 2) e10
  have A10 := mk_al (kd := .inl 2) M10
  have kT10 := mk_k (q := (20, .inl 11)) M10 (by decide +kernel)
  obtain ⟨J10, j10⟩ : ∃ J, J = al H10 (.inl 2) := ⟨_, rfl⟩
  rw [← j10] at Q10 A10
  have kA10 := mk_k (q := (20, .inl 11)) A10 (by decide +kernel)
  have r10_0 := mk_r (q := (20, 0, 21)) A10 (by decide +kernel)
  refine hP.1 _ _ sx_T_init_124 _ _ _ _ _ ?_
  simp (maxSteps := 1000000) (disch := omega) only [gx_T_init_124, slk, List.map_cons, List.map_nil, List.sum_cons, List.sum_nil, vc_i, vc_r, vc_n, vc_l, vc_o, Nat.add_zero, kO_e, kA_e, hdO_a, eq_self, blk, stp, lg, ls0, lk, ls1, ls2, kI_i, kL_l, kR_r, kR_n, kR_o, s1I_i, s2I_i, s1L_l, s2L_l, s1R_r, s1R_n, s1R_o, s1A_a, cmpc, popn, swt, rf_s, rf_n, cat_i, cat_r, cat_n, cat_l, true_and, and_true, List.length_cons, List.length_nil, Nat.zero_add, Int.reduceToNat, Nat.reduceAdd, Nat.reduceDiv, Nat.reduceMod, Nat.reduceMul, Nat.reduceSub, Nat.reduceLeDiff, Nat.reduceLT, Nat.reduceEqDiff, ↓reduceIte, r_gr_wi, r_gl_wi, r_gk_wi, r_gn_wi, r_wi_eq, r_wi_ne, r_wi_nj, r_gi_wr, r_gl_wr, r_gk_wr, r_gn_wr, r_gr_wa, r_gl_wa, r_gk_wa, r_gn_wa, aa_e, as_e, al_e, u_lt, u_le, u_gt, u_ge, u_lt0, u_le0, u_gt0, u_ge0, Classical.not_not, not_true_eq_false, not_false_eq_true, oi_n, oi_m, n_dec, nI_add, pk_mul, n_sub, n_eq, n_le, n_lt, n_eq0, n_lt0, n_le0, n_0lt, n_0le, n_eqm, m_eqn, n_ltm, n_and, n_or, n_xor, n_shl, n_shr, tb1, tb0, bP_1, bP_0, bP_n0, ix_n, inb_n, u_eq, u_eqm, e10, nfc, ← j10, Q10.2.1, kA10, kT10, r10_0]
  refine ⟨_, _, _, c_Co_init (r1 := 21) Q10.1 Q10.2.1 Q10.2.2.1 (by omega), ⟨by omega, by omega⟩, ?_⟩
  rintro r G10 ⟨rfl, S10⟩
  simp (maxSteps := 1000000) (disch := omega) only [slk, List.map_cons, List.map_nil, List.sum_cons, List.sum_nil, vc_i, vc_r, vc_n, vc_l, vc_o, Nat.add_zero, kO_e, kA_e, hdO_a, eq_self, blk, stp, lg, ls0, lk, ls1, ls2, kI_i, kL_l, kR_r, kR_n, kR_o, s1I_i, s2I_i, s1L_l, s2L_l, s1R_r, s1R_n, s1R_o, s1A_a, cmpc, popn, swt, rf_s, rf_n, cat_i, cat_r, cat_n, cat_l, true_and, and_true, List.length_cons, List.length_nil, Nat.zero_add, Int.reduceToNat, Nat.reduceAdd, Nat.reduceDiv, Nat.reduceMod, Nat.reduceMul, Nat.reduceSub, Nat.reduceLeDiff, Nat.reduceLT, Nat.reduceEqDiff, ↓reduceIte, r_gr_wi, r_gl_wi, r_gk_wi, r_gn_wi, r_wi_eq, r_wi_ne, r_wi_nj, r_gi_wr, r_gl_wr, r_gk_wr, r_gn_wr, r_gr_wa, r_gl_wa, r_gk_wa, r_gn_wa, aa_e, as_e, al_e, u_lt, u_le, u_gt, u_ge, u_lt0, u_le0, u_gt0, u_ge0, Classical.not_not, not_true_eq_false, not_false_eq_true, oi_n, oi_m, n_dec, nI_add, pk_mul, n_sub, n_eq, n_le, n_lt, n_eq0, n_lt0, n_le0, n_0lt, n_0le, n_eqm, m_eqn, n_ltm, n_and, n_or, n_xor, n_shl, n_shr, tb1, tb0, bP_1, bP_0, bP_n0, ix_n, inb_n, u_eq, u_eqm, e10, nfc, ← j10, Q10.2.1, kA10, kT10, r10_0]
  have C10 := mk_in (il := []) A10 S10 (by omega) (by decide +kernel) (g7_0 59)
  have kG10 := mk_k (q := (20, .inl 11)) C10 (by decide +kernel)
  refine hP.1 _ _ sx_T_init_136 _ _ _ _ _ ?_
  simp (maxSteps := 1000000) (disch := omega) only [gx_T_init_136, slk, List.map_cons, List.map_nil, List.sum_cons, List.sum_nil, vc_i, vc_r, vc_n, vc_l, vc_o, Nat.add_zero, kO_e, kA_e, hdO_a, eq_self, blk, stp, lg, ls0, lk, ls1, ls2, kI_i, kL_l, kR_r, kR_n, kR_o, s1I_i, s2I_i, s1L_l, s2L_l, s1R_r, s1R_n, s1R_o, s1A_a, cmpc, popn, swt, rf_s, rf_n, cat_i, cat_r, cat_n, cat_l, true_and, and_true, List.length_cons, List.length_nil, Nat.zero_add, Int.reduceToNat, Nat.reduceAdd, Nat.reduceDiv, Nat.reduceMod, Nat.reduceMul, Nat.reduceSub, Nat.reduceLeDiff, Nat.reduceLT, Nat.reduceEqDiff, ↓reduceIte, r_gr_wi, r_gl_wi, r_gk_wi, r_gn_wi, r_wi_eq, r_wi_ne, r_wi_nj, r_gi_wr, r_gl_wr, r_gk_wr, r_gn_wr, r_gr_wa, r_gl_wa, r_gk_wa, r_gn_wa, aa_e, as_e, al_e, u_lt, u_le, u_gt, u_ge, u_lt0, u_le0, u_gt0, u_ge0, Classical.not_not, not_true_eq_false, not_false_eq_true, oi_n, oi_m, n_dec, nI_add, pk_mul, n_sub, n_eq, n_le, n_lt, n_eq0, n_lt0, n_le0, n_0lt, n_0le, n_eqm, m_eqn, n_ltm, n_and, n_or, n_xor, n_shl, n_shr, tb1, tb0, bP_1, bP_0, bP_n0, ix_n, inb_n, u_eq, u_eqm, kG10]
  have B10 := mk_wr (a := 20) (f := 10) (v := 59) C10 ⟨by omega, by omega⟩ (by decide +kernel)
  generalize wr G10 20 10 (some 59) = H11 at B10 ⊢
  have M11 : MKS h H11 61 tK11 tR11 tI11 tN11 := B10
  clear B10 M10
  have e11 : gn H11 = 61 := M11.1
  have Q11 := r_al_k H11 (.inl 3) e11
  have A11 := mk_al (kd := .inl 3) M11
  have kT11 := mk_k (q := (20, .inl 11)) M11 (by decide +kernel)
  obtain ⟨J11, j11⟩ : ∃ J, J = al H11 (.inl 3) := ⟨_, rfl⟩
  rw [← j11] at Q11 A11
  have kA11 := mk_k (q := (20, .inl 11)) A11 (by decide +kernel)
  have r11_0 := mk_r (q := (20, 0, 21)) A11 (by decide +kernel)
  refine hP.1 _ _ sx_T_init_139 _ _ _ _ _ ?_
  simp (maxSteps := 1000000) (disch := omega) only [gx_T_init_139, slk, List.map_cons, List.map_nil, List.sum_cons, List.sum_nil, vc_i, vc_r, vc_n, vc_l, vc_o, Nat.add_zero, kO_e, kA_e, hdO_a, eq_self, blk, stp, lg, ls0, lk, ls1, ls2, kI_i, kL_l, kR_r, kR_n, kR_o, s1I_i, s2I_i, s1L_l, s2L_l, s1R_r, s1R_n, s1R_o, s1A_a, cmpc, popn, swt, rf_s, rf_n, cat_i, cat_r, cat_n, cat_l, true_and, and_true, List.length_cons, List.length_nil, Nat.zero_add, Int.reduceToNat, Nat.reduceAdd, Nat.reduceDiv, Nat.reduceMod, Nat.reduceMul, Nat.reduceSub, Nat.reduceLeDiff, Nat.reduceLT, Nat.reduceEqDiff, ↓reduceIte, r_gr_wi, r_gl_wi, r_gk_wi, r_gn_wi, r_wi_eq, r_wi_ne, r_wi_nj, r_gi_wr, r_gl_wr, r_gk_wr, r_gn_wr, r_gr_wa, r_gl_wa, r_gk_wa, r_gn_wa, aa_e, as_e, al_e, u_lt, u_le, u_gt, u_ge, u_lt0, u_le0, u_gt0, u_ge0, Classical.not_not, not_true_eq_false, not_false_eq_true, oi_n, oi_m, n_dec, nI_add, pk_mul, n_sub, n_eq, n_le, n_lt, n_eq0, n_lt0, n_le0, n_0lt, n_0le, n_eqm, m_eqn, n_ltm, n_and, n_or, n_xor, n_shl, n_shr, tb1, tb0, bP_1, bP_0, bP_n0, ix_n, inb_n, u_eq, u_eqm, e11, nfc, ← j11, Q11.2.1, kA11, kT11, r11_0]
  refine ⟨_, _, _, c_Gf_init (r1 := 21) Q11.1 Q11.2.1 Q11.2.2.1 (by omega), ⟨by omega, by omega⟩, ?_⟩
  rintro r G11 ⟨rfl, S11⟩
  simp (maxSteps := 1000000) (disch := omega) only [slk, List.map_cons, List.map_nil, List.sum_cons, List.sum_nil, vc_i, vc_r, vc_n, vc_l, vc_o, Nat.add_zero, kO_e, kA_e, hdO_a, eq_self, blk, stp, lg, ls0, lk, ls1, ls2, kI_i, kL_l, kR_r, kR_n, kR_o, s1I_i, s2I_i, s1L_l, s2L_l, s1R_r, s1R_n, s1R_o, s1A_a, cmpc, popn, swt, rf_s, rf_n, cat_i, cat_r, cat_n, cat_l, true_and, and_true, List.length_cons, List.length_nil, Nat.zero_add, Int.reduceToNat, Nat.reduceAdd, Nat.reduceDiv, Nat.reduceMod, Nat.reduceMul, Nat.reduceSub, Nat.reduceLeDiff, Nat.reduceLT, Nat.reduceEqDiff, ↓reduceIte, r_gr_wi, r_gl_wi, r_gk_wi, r_gn_wi, r_wi_eq, r_wi_ne, r_wi_nj, r_gi_wr, r_gl_wr, r_gk_wr, r_gn_wr, r_gr_wa, r_gl_wa, r_gk_wa, r_gn_wa, aa_e, as_e, al_e, u_lt, u_le, u_gt, u_ge, u_lt0, u_le0, u_gt0, u_ge0, Classical.not_not, not_true_eq_false, not_false_eq_true, oi_n, oi_m, n_dec, nI_add, pk_mul, n_sub, n_eq, n_le, n_lt, n_eq0, n_lt0, n_le0, n_0lt, n_0le, n_eqm, m_eqn, n_ltm, n_and, n_or, n_xor, n_shl, n_shr, tb1, tb0, bP_1, bP_0, bP_n0, ix_n, inb_n, u_eq, u_eqm, e11, nfc, ← j11, Q11.2.1, kA11, kT11, r11_0]
  have C11 := mk_in (il := []) A11 S11 (by omega) (by decide +kernel) (g7_0 61)
  have kG11 := mk_k (q := (20, .inl 11)) C11 (by decide +kernel)
  refine hP.1 _ _ sx_T_init_151 _ _ _ _ _ ?_
  simp (maxSteps := 1000000) (disch := omega) only [gx_T_init_151, slk, List.map_cons, List.map_nil, List.sum_cons, List.sum_nil, vc_i, vc_r, vc_n, vc_l, vc_o, Nat.add_zero, kO_e, kA_e, hdO_a, eq_self, blk, stp, lg, ls0, lk, ls1, ls2, kI_i, kL_l, kR_r, kR_n, kR_o, s1I_i, s2I_i, s1L_l, s2L_l, s1R_r, s1R_n, s1R_o, s1A_a, cmpc, popn, swt, rf_s, rf_n, cat_i, cat_r, cat_n, cat_l, true_and, and_true, List.length_cons, List.length_nil, Nat.zero_add, Int.reduceToNat, Nat.reduceAdd, Nat.reduceDiv, Nat.reduceMod, Nat.reduceMul, Nat.reduceSub, Nat.reduceLeDiff, Nat.reduceLT, Nat.reduceEqDiff, ↓reduceIte, r_gr_wi, r_gl_wi, r_gk_wi, r_gn_wi, r_wi_eq, r_wi_ne, r_wi_nj, r_gi_wr, r_gl_wr, r_gk_wr, r_gn_wr, r_gr_wa, r_gl_wa, r_gk_wa, r_gn_wa, aa_e, as_e, al_e, u_lt, u_le, u_gt, u_ge, u_lt0, u_le0, u_gt0, u_ge0, Classical.not_not, not_true_eq_false, not_false_eq_true, oi_n, oi_m, n_dec, nI_add, pk_mul, n_sub, n_eq, n_le, n_lt, n_eq0, n_lt0, n_le0, n_0lt, n_0le, n_eqm, m_eqn, n_ltm, n_and, n_or, n_xor, n_shl, n_shr, tb1, tb0, bP_1, bP_0, bP_n0, ix_n, inb_n, u_eq, u_eqm, kG11]
  have B11 := mk_wr (a := 20) (f := 11) (v := 61) C11 ⟨by omega, by omega⟩ (by decide +kernel)
  generalize wr G11 20 11 (some 61) = H12 at B11 ⊢
  have M12 : MKS h H12 69 tK12 tR12 tI12 tN12 := B11
  clear B11 M11
  have e12 : gn H12 = 69 := M12.1
  have Q12 := r_al_k H12 (.inl 0) e12
  have A12 := mk_al (kd := .inl 0) M12
  have kT12 := mk_k (q := (20, .inl 11)) M12 (by decide +kernel)
  obtain ⟨J12, j12⟩ : ∃ J, J = al H12 (.inl 0) := ⟨_, rfl⟩
  rw [← j12] at Q12 A12
  have kA12 := mk_k (q := (20, .inl 11)) A12 (by decide +kernel)
  refine hP.1 _ _ sx_T_init_154 _ _ _ _ _ ?_
  simp (maxSteps := 1000000) (disch := omega) only [gx_T_init_154, slk, List.map_cons, List.map_nil, List.sum_cons, List.sum_nil, vc_i, vc_r, vc_n, vc_l, vc_o, Nat.add_zero, kO_e, kA_e, hdO_a, eq_self, blk, stp, lg, ls0, lk, ls1, ls2, kI_i, kL_l, kR_r, kR_n, kR_o, s1I_i, s2I_i, s1L_l, s2L_l, s1R_r, s1R_n, s1R_o, s1A_a, cmpc, popn, swt, rf_s, rf_n, cat_i, cat_r, cat_n, cat_l, true_and, and_true, List.length_cons, List.length_nil, Nat.zero_add, Int.reduceToNat, Nat.reduceAdd, Nat.reduceDiv, Nat.reduceMod, Nat.reduceMul, Nat.reduceSub, Nat.reduceLeDiff, Nat.reduceLT, Nat.reduceEqDiff, ↓reduceIte, r_gr_wi, r_gl_wi, r_gk_wi, r_gn_wi, r_wi_eq, r_wi_ne, r_wi_nj, r_gi_wr, r_gl_wr, r_gk_wr, r_gn_wr, r_gr_wa, r_gl_wa, r_gk_wa, r_gn_wa, aa_e, as_e, al_e, u_lt, u_le, u_gt, u_ge, u_lt0, u_le0, u_gt0, u_ge0, Classical.not_not, not_true_eq_false, not_false_eq_true, oi_n, oi_m, n_dec, nI_add, pk_mul, n_sub, n_eq, n_le, n_lt, n_eq0, n_lt0, n_le0, n_0lt, n_0le, n_eqm, m_eqn, n_ltm, n_and, n_or, n_xor, n_shl, n_shr, tb1, tb0, bP_1, bP_0, bP_n0, ix_n, inb_n, u_eq, u_eqm, e12, nfc, ← j12, Q12.2.1, kA12, kT12]
  refine ⟨_, _, _, c_As_init Q12.1 Q12.2.1 Q12.2.2.1 (by omega), ⟨by omega, by omega⟩, ?_⟩
  rintro r G12 ⟨rfl, S12⟩
  simp (maxSteps := 1000000) (disch := omega) only [slk, List.map_cons, List.map_nil, List.sum_cons, List.sum_nil, vc_i, vc_r, vc_n, vc_l, vc_o, Nat.add_zero, kO_e, kA_e, hdO_a, eq_self, blk, stp, lg, ls0, lk, ls1, ls2, kI_i, kL_l, kR_r, kR_n, kR_o, s1I_i, s2I_i, s1L_l, s2L_l, s1R_r, s1R_n, s1R_o, s1A_a, cmpc, popn, swt, rf_s, rf_n, cat_i, cat_r, cat_n, cat_l, true_and, and_true, List.length_cons, List.length_nil, Nat.zero_add, Int.reduceToNat, Nat.reduceAdd, Nat.reduceDiv, Nat.reduceMod, Nat.reduceMul, Nat.reduceSub, Nat.reduceLeDiff, Nat.reduceLT, Nat.reduceEqDiff, ↓reduceIte, r_gr_wi, r_gl_wi, r_gk_wi, r_gn_wi, r_wi_eq, r_wi_ne, r_wi_nj, r_gi_wr, r_gl_wr, r_gk_wr, r_gn_wr, r_gr_wa, r_gl_wa, r_gk_wa, r_gn_wa, aa_e, as_e, al_e, u_lt, u_le, u_gt, u_ge, u_lt0, u_le0, u_gt0, u_ge0, Classical.not_not, not_true_eq_false, not_false_eq_true, oi_n, oi_m, n_dec, nI_add, pk_mul, n_sub, n_eq, n_le, n_lt, n_eq0, n_lt0, n_le0, n_0lt, n_0le, n_eqm, m_eqn, n_ltm, n_and, n_or, n_xor, n_shl, n_shr, tb1, tb0, bP_1, bP_0, bP_n0, ix_n, inb_n, u_eq, u_eqm, e12, nfc, ← j12, Q12.2.1, kA12, kT12]
  have C12 := mk_in (il := []) A12 S12 (by omega) (by decide +kernel) (g7_0 69)
  have kG12 := mk_k (q := (20, .inl 11)) C12 (by decide +kernel)
  refine hP.1 _ _ sx_T_init_162 _ _ _ _ _ ?_
  simp (maxSteps := 1000000) (disch := omega) only [gx_T_init_162, slk, List.map_cons, List.map_nil, List.sum_cons, List.sum_nil, vc_i, vc_r, vc_n, vc_l, vc_o, Nat.add_zero, kO_e, kA_e, hdO_a, eq_self, blk, stp, lg, ls0, lk, ls1, ls2, kI_i, kL_l, kR_r, kR_n, kR_o, s1I_i, s2I_i, s1L_l, s2L_l, s1R_r, s1R_n, s1R_o, s1A_a, cmpc, popn, swt, rf_s, rf_n, cat_i, cat_r, cat_n, cat_l, true_and, and_true, List.length_cons, List.length_nil, Nat.zero_add, Int.reduceToNat, Nat.reduceAdd, Nat.reduceDiv, Nat.reduceMod, Nat.reduceMul, Nat.reduceSub, Nat.reduceLeDiff, Nat.reduceLT, Nat.reduceEqDiff, ↓reduceIte, r_gr_wi, r_gl_wi, r_gk_wi, r_gn_wi, r_wi_eq, r_wi_ne, r_wi_nj, r_gi_wr, r_gl_wr, r_gk_wr, r_gn_wr, r_gr_wa, r_gl_wa, r_gk_wa, r_gn_wa, aa_e, as_e, al_e, u_lt, u_le, u_gt, u_ge, u_lt0, u_le0, u_gt0, u_ge0, Classical.not_not, not_true_eq_false, not_false_eq_true, oi_n, oi_m, n_dec, nI_add, pk_mul, n_sub, n_eq, n_le, n_lt, n_eq0, n_lt0, n_le0, n_0lt, n_0le, n_eqm, m_eqn, n_ltm, n_and, n_or, n_xor, n_shl, n_shr, tb1, tb0, bP_1, bP_0, bP_n0, ix_n, inb_n, u_eq, u_eqm, kG12]
  have B12 := mk_wr (a := 20) (f := 12) (v := 69) C12 ⟨by omega, by omega⟩ (by decide +kernel)
  generalize wr G12 20 12 (some 69) = H13 at B12 ⊢
  have M13 : MKS h H13 75 tK13 tR13 tI13 tN13 := B12
  clear B12 M12
  have kT13 := mk_k (q := (20, .inl 11)) M13 (by decide +kernel)
  refine hP.1 _ _ sx_T_init_165 _ _ _ _ _ ?_
  simp (maxSteps := 1000000) (disch := omega) only [gx_T_init_165, slk, List.map_cons, List.map_nil, List.sum_cons, List.sum_nil, vc_i, vc_r, vc_n, vc_l, vc_o, Nat.add_zero, kO_e, kA_e, hdO_a, eq_self, blk, stp, lg, ls0, lk, ls1, ls2, kI_i, kL_l, kR_r, kR_n, kR_o, s1I_i, s2I_i, s1L_l, s2L_l, s1R_r, s1R_n, s1R_o, s1A_a, cmpc, popn, swt, rf_s, rf_n, cat_i, cat_r, cat_n, cat_l, true_and, and_true, List.length_cons, List.length_nil, Nat.zero_add, Int.reduceToNat, Nat.reduceAdd, Nat.reduceDiv, Nat.reduceMod, Nat.reduceMul, Nat.reduceSub, Nat.reduceLeDiff, Nat.reduceLT, Nat.reduceEqDiff, ↓reduceIte, r_gr_wi, r_gl_wi, r_gk_wi, r_gn_wi, r_wi_eq, r_wi_ne, r_wi_nj, r_gi_wr, r_gl_wr, r_gk_wr, r_gn_wr, r_gr_wa, r_gl_wa, r_gk_wa, r_gn_wa, aa_e, as_e, al_e, u_lt, u_le, u_gt, u_ge, u_lt0, u_le0, u_gt0, u_ge0, Classical.not_not, not_true_eq_false, not_false_eq_true, oi_n, oi_m, n_dec, nI_add, pk_mul, n_sub, n_eq, n_le, n_lt, n_eq0, n_lt0, n_le0, n_0lt, n_0le, n_eqm, m_eqn, n_ltm, n_and, n_or, n_xor, n_shl, n_shr, tb1, tb0, bP_1, bP_0, bP_n0, ix_n, inb_n, u_eq, u_eqm, kT13]
  have kT0_13 := mk_k (q := (20, .inl 11)) M13 (by decide +kernel)
  refine hP.1 _ _ sx_T_init_167 _ _ _ _ _ ?_
  simp (maxSteps := 1000000) (disch := omega) only [gx_T_init_167, slk, List.map_cons, List.map_nil, List.sum_cons, List.sum_nil, vc_i, vc_r, vc_n, vc_l, vc_o, Nat.add_zero, kO_e, kA_e, hdO_a, eq_self, blk, stp, lg, ls0, lk, ls1, ls2, kI_i, kL_l, kR_r, kR_n, kR_o, s1I_i, s2I_i, s1L_l, s2L_l, s1R_r, s1R_n, s1R_o, s1A_a, cmpc, popn, swt, rf_s, rf_n, cat_i, cat_r, cat_n, cat_l, true_and, and_true, List.length_cons, List.length_nil, Nat.zero_add, Int.reduceToNat, Nat.reduceAdd, Nat.reduceDiv, Nat.reduceMod, Nat.reduceMul, Nat.reduceSub, Nat.reduceLeDiff, Nat.reduceLT, Nat.reduceEqDiff, ↓reduceIte, r_gr_wi, r_gl_wi, r_gk_wi, r_gn_wi, r_wi_eq, r_wi_ne, r_wi_nj, r_gi_wr, r_gl_wr, r_gk_wr, r_gn_wr, r_gr_wa, r_gl_wa, r_gk_wa, r_gn_wa, aa_e, as_e, al_e, u_lt, u_le, u_gt, u_ge, u_lt0, u_le0, u_gt0, u_ge0, Classical.not_not, not_true_eq_false, not_false_eq_true, oi_n, oi_m, n_dec, nI_add, pk_mul, n_sub, n_eq, n_le, n_lt, n_eq0, n_lt0, n_le0, n_0lt, n_0le, n_eqm, m_eqn, n_ltm, n_and, n_or, n_xor, n_shl, n_shr, tb1, tb0, bP_1, bP_0, bP_n0, ix_n, inb_n, u_eq, u_eqm, kT0_13]
  refine ⟨fun z => (by first | exact z.elim | exact absurd z (by decide)), fun _ => ?_⟩
  have e13 : gn H13 = 75 := M13.1
  have Q13 := r_al_k H13 (.inl 8) e13
  have A13 := mk_al (kd := .inl 8) M13
  have kT13 := mk_k (q := (20, .inl 11)) M13 (by decide +kernel)
  obtain ⟨J13, j13⟩ : ∃ J, J = al H13 (.inl 8) := ⟨_, rfl⟩
  rw [← j13] at Q13 A13
  have kA13 := mk_k (q := (20, .inl 11)) A13 (by decide +kernel)
  have r13_0 := mk_r (q := (20, 0, 21)) A13 (by decide +kernel)
  have r13_1 := mk_r (q := (20, 5, 41)) A13 (by decide +kernel)
  have r13_2 := mk_r (q := (20, 6, 42)) A13 (by decide +kernel)
  have r13_9 : gr H13 20 7 = some 45 := mk_r (q := (20, 7, 45)) M13 (by decide +kernel)
  refine hP.1 _ _ sx_T_init_172 _ _ _ _ _ ?_
  simp (maxSteps := 1000000) (disch := omega) only [gx_T_init_172, slk, List.map_cons, List.map_nil, List.sum_cons, List.sum_nil, vc_i, vc_r, vc_n, vc_l, vc_o, Nat.add_zero, kO_e, kA_e, hdO_a, eq_self, blk, stp, lg, ls0, lk, ls1, ls2, kI_i, kL_l, kR_r, kR_n, kR_o, s1I_i, s2I_i, s1L_l, s2L_l, s1R_r, s1R_n, s1R_o, s1A_a, cmpc, popn, swt, rf_s, rf_n, cat_i, cat_r, cat_n, cat_l, true_and, and_true, List.length_cons, List.length_nil, Nat.zero_add, Int.reduceToNat, Nat.reduceAdd, Nat.reduceDiv, Nat.reduceMod, Nat.reduceMul, Nat.reduceSub, Nat.reduceLeDiff, Nat.reduceLT, Nat.reduceEqDiff, ↓reduceIte, r_gr_wi, r_gl_wi, r_gk_wi, r_gn_wi, r_wi_eq, r_wi_ne, r_wi_nj, r_gi_wr, r_gl_wr, r_gk_wr, r_gn_wr, r_gr_wa, r_gl_wa, r_gk_wa, r_gn_wa, aa_e, as_e, al_e, u_lt, u_le, u_gt, u_ge, u_lt0, u_le0, u_gt0, u_ge0, Classical.not_not, not_true_eq_false, not_false_eq_true, oi_n, oi_m, n_dec, nI_add, pk_mul, n_sub, n_eq, n_le, n_lt, n_eq0, n_lt0, n_le0, n_0lt, n_0le, n_eqm, m_eqn, n_ltm, n_and, n_or, n_xor, n_shl, n_shr, tb1, tb0, bP_1, bP_0, bP_n0, ix_n, inb_n, u_eq, u_eqm, e13, nfc, ← j13, Q13.2.1, kA13, kT13, r13_0, r13_1, r13_2, r13_9]
  refine ⟨_, _, _, c_Ta_init (r1 := 21) (r2 := 41) (r3 := 42) Q13.1 Q13.2.1 Q13.2.2.1 (by omega), ⟨by omega, by omega⟩, ?_⟩
  rintro r G13 ⟨rfl, S13⟩
  simp (maxSteps := 1000000) (disch := omega) only [slk, List.map_cons, List.map_nil, List.sum_cons, List.sum_nil, vc_i, vc_r, vc_n, vc_l, vc_o, Nat.add_zero, kO_e, kA_e, hdO_a, eq_self, blk, stp, lg, ls0, lk, ls1, ls2, kI_i, kL_l, kR_r, kR_n, kR_o, s1I_i, s2I_i, s1L_l, s2L_l, s1R_r, s1R_n, s1R_o, s1A_a, cmpc, popn, swt, rf_s, rf_n, cat_i, cat_r, cat_n, cat_l, true_and, and_true, List.length_cons, List.length_nil, Nat.zero_add, Int.reduceToNat, Nat.reduceAdd, Nat.reduceDiv, Nat.reduceMod, Nat.reduceMul, Nat.reduceSub, Nat.reduceLeDiff, Nat.reduceLT, Nat.reduceEqDiff, ↓reduceIte, r_gr_wi, r_gl_wi, r_gk_wi, r_gn_wi, r_wi_eq, r_wi_ne, r_wi_nj, r_gi_wr, r_gl_wr, r_gk_wr, r_gn_wr, r_gr_wa, r_gl_wa, r_gk_wa, r_gn_wa, aa_e, as_e, al_e, u_lt, u_le, u_gt, u_ge, u_lt0, u_le0, u_gt0, u_ge0, Classical.not_not, not_true_eq_false, not_false_eq_true, oi_n, oi_m, n_dec, nI_add, pk_mul, n_sub, n_eq, n_le, n_lt, n_eq0, n_lt0, n_le0, n_0lt, n_0le, n_eqm, m_eqn, n_ltm, n_and, n_or, n_xor, n_shl, n_shr, tb1, tb0, bP_1, bP_0, bP_n0, ix_n, inb_n, u_eq, u_eqm, e13, nfc, ← j13, Q13.2.1, kA13, kT13, r13_0, r13_1, r13_2, r13_9]
  have C13 := mk_in (il := [(75, 17)]) A13 S13 (by omega) (by decide +kernel) (g7_17 75)
  have kG13 := mk_k (q := (45, .inr (6, 4))) C13 (by decide +kernel)
  have kO13 := mk_k (q := (75, .inl 8)) C13 (by decide +kernel)
  refine hP.1 _ _ sx_T_init_196 _ _ _ _ _ ?_
  simp (maxSteps := 1000000) (disch := omega) only [gx_T_init_196, slk, List.map_cons, List.map_nil, List.sum_cons, List.sum_nil, vc_i, vc_r, vc_n, vc_l, vc_o, Nat.add_zero, kO_e, kA_e, hdO_a, eq_self, blk, stp, lg, ls0, lk, ls1, ls2, kI_i, kL_l, kR_r, kR_n, kR_o, s1I_i, s2I_i, s1L_l, s2L_l, s1R_r, s1R_n, s1R_o, s1A_a, cmpc, popn, swt, rf_s, rf_n, cat_i, cat_r, cat_n, cat_l, true_and, and_true, List.length_cons, List.length_nil, Nat.zero_add, Int.reduceToNat, Nat.reduceAdd, Nat.reduceDiv, Nat.reduceMod, Nat.reduceMul, Nat.reduceSub, Nat.reduceLeDiff, Nat.reduceLT, Nat.reduceEqDiff, ↓reduceIte, r_gr_wi, r_gl_wi, r_gk_wi, r_gn_wi, r_wi_eq, r_wi_ne, r_wi_nj, r_gi_wr, r_gl_wr, r_gk_wr, r_gn_wr, r_gr_wa, r_gl_wa, r_gk_wa, r_gn_wa, aa_e, as_e, al_e, u_lt, u_le, u_gt, u_ge, u_lt0, u_le0, u_gt0, u_ge0, Classical.not_not, not_true_eq_false, not_false_eq_true, oi_n, oi_m, n_dec, nI_add, pk_mul, n_sub, n_eq, n_le, n_lt, n_eq0, n_lt0, n_le0, n_0lt, n_0le, n_eqm, m_eqn, n_ltm, n_and, n_or, n_xor, n_shl, n_shr, tb1, tb0, bP_1, bP_0, bP_n0, ix_n, inb_n, u_eq, u_eqm, kG13]
  refine ⟨⟨6, 4, rfl, by decide, by decide, of_eq_true (inb_n (show 0 < 4 by omega) (by omega)), fun b eb => (by cases eb; exact ⟨by omega, kO13⟩)⟩, ?_⟩
  refine hP.1 _ _ sx_T_init_197 _ _ _ _ _ ?_
  simp (maxSteps := 1000000) (disch := omega) only [gx_T_init_197, slk, List.map_cons, List.map_nil, List.sum_cons, List.sum_nil, vc_i, vc_r, vc_n, vc_l, vc_o, Nat.add_zero, kO_e, kA_e, hdO_a, eq_self, blk, stp, lg, ls0, lk, ls1, ls2, kI_i, kL_l, kR_r, kR_n, kR_o, s1I_i, s2I_i, s1L_l, s2L_l, s1R_r, s1R_n, s1R_o, s1A_a, cmpc, popn, swt, rf_s, rf_n, cat_i, cat_r, cat_n, cat_l, true_and, and_true, List.length_cons, List.length_nil, Nat.zero_add, Int.reduceToNat, Nat.reduceAdd, Nat.reduceDiv, Nat.reduceMod, Nat.reduceMul, Nat.reduceSub, Nat.reduceLeDiff, Nat.reduceLT, Nat.reduceEqDiff, ↓reduceIte, r_gr_wi, r_gl_wi, r_gk_wi, r_gn_wi, r_wi_eq, r_wi_ne, r_wi_nj, r_gi_wr, r_gl_wr, r_gk_wr, r_gn_wr, r_gr_wa, r_gl_wa, r_gk_wa, r_gn_wa, aa_e, as_e, al_e, u_lt, u_le, u_gt, u_ge, u_lt0, u_le0, u_gt0, u_ge0, Classical.not_not, not_true_eq_false, not_false_eq_true, oi_n, oi_m, n_dec, nI_add, pk_mul, n_sub, n_eq, n_le, n_lt, n_eq0, n_lt0, n_le0, n_0lt, n_0le, n_eqm, m_eqn, n_ltm, n_and, n_or, n_xor, n_shl, n_shr, tb1, tb0, bP_1, bP_0, bP_n0, ix_n, inb_n, u_eq, u_eqm, kG13]
  have B13 := mk_wr (a := 45) (f := 0) (v := 75) C13 ⟨by omega, by omega⟩ (by decide +kernel)
  generalize wr G13 45 0 (some 75) = H14 at B13 ⊢
  have M14 : MKS h H14 83 tK14 tR14 tI14 tN14 := B13
  clear B13 M13
  have kT0_14 := mk_k (q := (20, .inl 11)) M14 (by decide +kernel)
  refine hP.1 _ _ sx_T_init_167 _ _ _ _ _ ?_
  simp (maxSteps := 1000000) (disch := omega) only [gx_T_init_167, slk, List.map_cons, List.map_nil, List.sum_cons, List.sum_nil, vc_i, vc_r, vc_n, vc_l, vc_o, Nat.add_zero, kO_e, kA_e, hdO_a, eq_self, blk, stp, lg, ls0, lk, ls1, ls2, kI_i, kL_l, kR_r, kR_n, kR_o, s1I_i, s2I_i, s1L_l, s2L_l, s1R_r, s1R_n, s1R_o, s1A_a, cmpc, popn, swt, rf_s, rf_n, cat_i, cat_r, cat_n, cat_l, true_and, and_true, List.length_cons, List.length_nil, Nat.zero_add, Int.reduceToNat, Nat.reduceAdd, Nat.reduceDiv, Nat.reduceMod, Nat.reduceMul, Nat.reduceSub, Nat.reduceLeDiff, Nat.reduceLT, Nat.reduceEqDiff, ↓reduceIte, r_gr_wi, r_gl_wi, r_gk_wi, r_gn_wi, r_wi_eq, r_wi_ne, r_wi_nj, r_gi_wr, r_gl_wr, r_gk_wr, r_gn_wr, r_gr_wa, r_gl_wa, r_gk_wa, r_gn_wa, aa_e, as_e, al_e, u_lt, u_le, u_gt, u_ge, u_lt0, u_le0, u_gt0, u_ge0, Classical.not_not, not_true_eq_false, not_false_eq_true, oi_n, oi_m, n_dec, nI_add, pk_mul, n_sub, n_eq, n_le, n_lt, n_eq0, n_lt0, n_le0, n_0lt, n_0le, n_eqm, m_eqn, n_ltm, n_and, n_or, n_xor, n_shl, n_shr, tb1, tb0, bP_1, bP_0, bP_n0, ix_n, inb_n, u_eq, u_eqm, kT0_14]
  refine ⟨fun z => (by first | exact z.elim | exact absurd z (by decide)), fun _ => ?_⟩
  have e14 : gn H14 = 83 := M14.1
  have Q14 := r_al_k H14 (.inl 8) e14
  have A14 := mk_al (kd := .inl 8) M14
  have kT14 := mk_k (q := (20, .inl 11)) M14 (by decide +kernel)
  obtain ⟨J14, j14⟩ : ∃ J, J = al H14 (.inl 8) := ⟨_, rfl⟩
  rw [← j14] at Q14 A14
  have kA14 := mk_k (q := (20, .inl 11)) A14 (by decide +kernel)
  have r14_0 := mk_r (q := (20, 0, 21)) A14 (by decide +kernel)
  have r14_1 := mk_r (q := (20, 5, 41)) A14 (by decide +kernel)
  have r14_2 := mk_r (q := (20, 6, 42)) A14 (by decide +kernel)
  have r14_9 : gr H14 20 7 = some 45 := mk_r (q := (20, 7, 45)) M14 (by decide +kernel)
  refine hP.1 _ _ sx_T_init_172 _ _ _ _ _ ?_
  simp (maxSteps := 1000000) (disch := omega) only [gx_T_init_172, slk, List.map_cons, List.map_nil, List.sum_cons, List.sum_nil, vc_i, vc_r, vc_n, vc_l, vc_o, Nat.add_zero, kO_e, kA_e, hdO_a, eq_self, blk, stp, lg, ls0, lk, ls1, ls2, kI_i, kL_l, kR_r, kR_n, kR_o, s1I_i, s2I_i, s1L_l, s2L_l, s1R_r, s1R_n, s1R_o, s1A_a, cmpc, popn, swt, rf_s, rf_n, cat_i, cat_r, cat_n, cat_l, true_and, and_true, List.length_cons, List.length_nil, Nat.zero_add, Int.reduceToNat, Nat.reduceAdd, Nat.reduceDiv, Nat.reduceMod, Nat.reduceMul, Nat.reduceSub, Nat.reduceLeDiff, Nat.reduceLT, Nat.reduceEqDiff, ↓reduceIte, r_gr_wi, r_gl_wi, r_gk_wi, r_gn_wi, r_wi_eq, r_wi_ne, r_wi_nj, r_gi_wr, r_gl_wr, r_gk_wr, r_gn_wr, r_gr_wa, r_gl_wa, r_gk_wa, r_gn_wa, aa_e, as_e, al_e, u_lt, u_le, u_gt, u_ge, u_lt0, u_le0, u_gt0, u_ge0, Classical.not_not, not_true_eq_false, not_false_eq_true, oi_n, oi_m, n_dec, nI_add, pk_mul, n_sub, n_eq, n_le, n_lt, n_eq0, n_lt0, n_le0, n_0lt, n_0le, n_eqm, m_eqn, n_ltm, n_and, n_or, n_xor, n_shl, n_shr, tb1, tb0, bP_1, bP_0, bP_n0, ix_n, inb_n, u_eq, u_eqm, e14, nfc, ← j14, Q14.2.1, kA14, kT14, r14_0, r14_1, r14_2, r14_9]
  refine ⟨_, _, _, c_Ta_init (r1 := 21) (r2 := 41) (r3 := 42) Q14.1 Q14.2.1 Q14.2.2.1 (by omega), ⟨by omega, by omega⟩, ?_⟩
  rintro r G14 ⟨rfl, S14⟩
  simp (maxSteps := 1000000) (disch := omega) only [slk, List.map_cons, List.map_nil, List.sum_cons, List.sum_nil, vc_i, vc_r, vc_n, vc_l, vc_o, Nat.add_zero, kO_e, kA_e, hdO_a, eq_self, blk, stp, lg, ls0, lk, ls1, ls2, kI_i, kL_l, kR_r, kR_n, kR_o, s1I_i, s2I_i, s1L_l, s2L_l, s1R_r, s1R_n, s1R_o, s1A_a, cmpc, popn, swt, rf_s, rf_n, cat_i, cat_r, cat_n, cat_l, true_and, and_true, List.length_cons, List.length_nil, Nat.zero_add, Int.reduceToNat, Nat.reduceAdd, Nat.reduceDiv, Nat.reduceMod, Nat.reduceMul, Nat.reduceSub, Nat.reduceLeDiff, Nat.reduceLT, Nat.reduceEqDiff, ↓reduceIte, r_gr_wi, r_gl_wi, r_gk_wi, r_gn_wi, r_wi_eq, r_wi_ne, r_wi_nj, r_gi_wr, r_gl_wr, r_gk_wr, r_gn_wr, r_gr_wa, r_gl_wa, r_gk_wa, r_gn_wa, aa_e, as_e, al_e, u_lt, u_le, u_gt, u_ge, u_lt0, u_le0, u_gt0, u_ge0, Classical.not_not, not_true_eq_false, not_false_eq_true, oi_n, oi_m, n_dec, nI_add, pk_mul, n_sub, n_eq, n_le, n_lt, n_eq0, n_lt0, n_le0, n_0lt, n_0le, n_eqm, m_eqn, n_ltm, n_and, n_or, n_xor, n_shl, n_shr, tb1, tb0, bP_1, bP_0, bP_n0, ix_n, inb_n, u_eq, u_eqm, e14, nfc, ← j14, Q14.2.1, kA14, kT14, r14_0, r14_1, r14_2, r14_9]
  have C14 := mk_in (il := [(83, 17)]) A14 S14 (by omega) (by decide +kernel) (g7_17 83)
  have kG14 := mk_k (q := (45, .inr (6, 4))) C14 (by decide +kernel)
  have kO14 := mk_k (q := (83, .inl 8)) C14 (by decide +kernel)
  refine hP.1 _ _ sx_T_init_196 _ _ _ _ _ ?_
  simp (maxSteps := 1000000) (disch := omega) only [gx_T_init_196, slk, List.map_cons, List.map_nil, List.sum_cons, List.sum_nil, vc_i, vc_r, vc_n, vc_l, vc_o, Nat.add_zero, kO_e, kA_e, hdO_a, eq_self, blk, stp, lg, ls0, lk, ls1, ls2, kI_i, kL_l, kR_r, kR_n, kR_o, s1I_i, s2I_i, s1L_l, s2L_l, s1R_r, s1R_n, s1R_o, s1A_a, cmpc, popn, swt, rf_s, rf_n, cat_i, cat_r, cat_n, cat_l, true_and, and_true, List.length_cons, List.length_nil, Nat.zero_add, Int.reduceToNat, Nat.reduceAdd, Nat.reduceDiv, Nat.reduceMod, Nat.reduceMul, Nat.reduceSub, Nat.reduceLeDiff, Nat.reduceLT, Nat.reduceEqDiff, ↓reduceIte, r_gr_wi, r_gl_wi, r_gk_wi, r_gn_wi, r_wi_eq, r_wi_ne, r_wi_nj, r_gi_wr, r_gl_wr, r_gk_wr, r_gn_wr, r_gr_wa, r_gl_wa, r_gk_wa, r_gn_wa, aa_e, as_e, al_e, u_lt, u_le, u_gt, u_ge, u_lt0, u_le0, u_gt0, u_ge0, Classical.not_not, not_true_eq_false, not_false_eq_true, oi_n, oi_m, n_dec, nI_add, pk_mul, n_sub, n_eq, n_le, n_lt, n_eq0, n_lt0, n_le0, n_0lt, n_0le, n_eqm, m_eqn, n_ltm, n_and, n_or, n_xor, n_shl, n_shr, tb1, tb0, bP_1, bP_0, bP_n0, ix_n, inb_n, u_eq, u_eqm, kG14]
  refine ⟨⟨6, 4, rfl, by decide, by decide, of_eq_true (inb_n (show 1 < 4 by omega) (by omega)), fun b eb => (by cases eb; exact ⟨by omega, kO14⟩)⟩, ?_⟩
  refine hP.1 _ _ sx_T_init_197 _ _ _ _ _ ?_
  simp (maxSteps := 1000000) (disch := omega) only [gx_T_init_197, slk, List.map_cons, List.map_nil, List.sum_cons, List.sum_nil, vc_i, vc_r, vc_n, vc_l, vc_o, Nat.add_zero, kO_e, kA_e, hdO_a, eq_self, blk, stp, lg, ls0, lk, ls1, ls2, kI_i, kL_l, kR_r, kR_n, kR_o, s1I_i, s2I_i, s1L_l, s2L_l, s1R_r, s1R_n, s1R_o, s1A_a, cmpc, popn, swt, rf_s, rf_n, cat_i, cat_r, cat_n, cat_l, true_and, and_true, List.length_cons, List.length_nil, Nat.zero_add, Int.reduceToNat, Nat.reduceAdd, Nat.reduceDiv, Nat.reduceMod, Nat.reduceMul, Nat.reduceSub, Nat.reduceLeDiff, Nat.reduceLT, Nat.reduceEqDiff, ↓reduceIte, r_gr_wi, r_gl_wi, r_gk_wi, r_gn_wi, r_wi_eq, r_wi_ne, r_wi_nj, r_gi_wr, r_gl_wr, r_gk_wr, r_gn_wr, r_gr_wa, r_gl_wa, r_gk_wa, r_gn_wa, aa_e, as_e, al_e, u_lt, u_le, u_gt, u_ge, u_lt0, u_le0, u_gt0, u_ge0, Classical.not_not, not_true_eq_false, not_false_eq_true, oi_n, oi_m, n_dec, nI_add, pk_mul, n_sub, n_eq, n_le, n_lt, n_eq0, n_lt0, n_le0, n_0lt, n_0le, n_eqm, m_eqn, n_ltm, n_and, n_or, n_xor, n_shl, n_shr, tb1, tb0, bP_1, bP_0, bP_n0, ix_n, inb_n, u_eq, u_eqm, kG14]
  have B14 := mk_wr (a := 45) (f := 1) (v := 83) C14 ⟨by omega, by omega⟩ (by decide +kernel)
  generalize wr G14 45 1 (some 83) = H15 at B14 ⊢
  have M15 : MKS h H15 91 tK15 tR15 tI15 tN15 := B14
  clear B14 M14
  have kT0_15 := mk_k (q := (20, .inl 11)) M15 (by decide +kernel)
  refine hP.1 _ _ sx_T_init_167 _ _ _ _ _ ?_
  simp (maxSteps := 1000000) (disch := omega) only [gx_T_init_167, slk, List.map_cons, List.map_nil, List.sum_cons, List.sum_nil, vc_i, vc_r, vc_n, vc_l, vc_o, Nat.add_zero, kO_e, kA_e, hdO_a, eq_self, blk, stp, lg, ls0, lk, ls1, ls2, kI_i, kL_l, kR_r, kR_n, kR_o, s1I_i, s2I_i, s1L_l, s2L_l, s1R_r, s1R_n, s1R_o, s1A_a, cmpc, popn, swt, rf_s, rf_n, cat_i, cat_r, cat_n, cat_l, true_and, and_true, List.length_cons, List.length_nil, Nat.zero_add, Int.reduceToNat, Nat.reduceAdd, Nat.reduceDiv, Nat.reduceMod, Nat.reduceMul, Nat.reduceSub, Nat.reduceLeDiff, Nat.reduceLT, Nat.reduceEqDiff, ↓reduceIte, r_gr_wi, r_gl_wi, r_gk_wi, r_gn_wi, r_wi_eq, r_wi_ne, r_wi_nj, r_gi_wr, r_gl_wr, r_gk_wr, r_gn_wr, r_gr_wa, r_gl_wa, r_gk_wa, r_gn_wa, aa_e, as_e, al_e, u_lt, u_le, u_gt, u_ge, u_lt0, u_le0, u_gt0, u_ge0, Classical.not_not, not_true_eq_false, not_false_eq_true, oi_n, oi_m, n_dec, nI_add, pk_mul, n_sub, n_eq, n_le, n_lt, n_eq0, n_lt0, n_le0, n_0lt, n_0le, n_eqm, m_eqn, n_ltm, n_and, n_or, n_xor, n_shl, n_shr, tb1, tb0, bP_1, bP_0, bP_n0, ix_n, inb_n, u_eq, u_eqm, kT0_15]
  refine ⟨fun z => (by first | exact z.elim | exact absurd z (by decide)), fun _ => ?_⟩
  have e15 : gn H15 = 91 := M15.1
  have Q15 := r_al_k H15 (.inl 8) e15
  have A15 := mk_al (kd := .inl 8) M15
  have kT15 := mk_k (q := (20, .inl 11)) M15 (by decide +kernel)
  obtain ⟨J15, j15⟩ : ∃ J, J = al H15 (.inl 8) := ⟨_, rfl⟩
  rw [← j15] at Q15 A15
  have kA15 := mk_k (q := (20, .inl 11)) A15 (by decide +kernel)
  have r15_0 := mk_r (q := (20, 0, 21)) A15 (by decide +kernel)
  have r15_1 := mk_r (q := (20, 5, 41)) A15 (by decide +kernel)
  have r15_2 := mk_r (q := (20, 6, 42)) A15 (by decide +kernel)
  have r15_9 : gr H15 20 7 = some 45 := mk_r (q := (20, 7, 45)) M15 (by decide +kernel)
  refine hP.1 _ _ sx_T_init_172 _ _ _ _ _ ?_
  simp (maxSteps := 1000000) (disch := omega) only [gx_T_init_172, slk, List.map_cons, List.map_nil, List.sum_cons, List.sum_nil, vc_i, vc_r, vc_n, vc_l, vc_o, Nat.add_zero, kO_e, kA_e, hdO_a, eq_self, blk, stp, lg, ls0, lk, ls1, ls2, kI_i, kL_l, kR_r, kR_n, kR_o, s1I_i, s2I_i, s1L_l, s2L_l, s1R_r, s1R_n, s1R_o, s1A_a, cmpc, popn, swt, rf_s, rf_n, cat_i, cat_r, cat_n, cat_l, true_and, and_true, List.length_cons, List.length_nil, Nat.zero_add, Int.reduceToNat, Nat.reduceAdd, Nat.reduceDiv, Nat.reduceMod, Nat.reduceMul, Nat.reduceSub, Nat.reduceLeDiff, Nat.reduceLT, Nat.reduceEqDiff, ↓reduceIte, r_gr_wi, r_gl_wi, r_gk_wi, r_gn_wi, r_wi_eq, r_wi_ne, r_wi_nj, r_gi_wr, r_gl_wr, r_gk_wr, r_gn_wr, r_gr_wa, r_gl_wa, r_gk_wa, r_gn_wa, aa_e, as_e, al_e, u_lt, u_le, u_gt, u_ge, u_lt0, u_le0, u_gt0, u_ge0, Classical.not_not, not_true_eq_false, not_false_eq_true, oi_n, oi_m, n_dec, nI_add, pk_mul, n_sub, n_eq, n_le, n_lt, n_eq0, n_lt0, n_le0, n_0lt, n_0le, n_eqm, m_eqn, n_ltm, n_and, n_or, n_xor, n_shl, n_shr, tb1, tb0, bP_1, bP_0, bP_n0, ix_n, inb_n, u_eq, u_eqm, e15, nfc, ← j15, Q15.2.1, kA15, kT15, r15_0, r15_1, r15_2, r15_9]
  refine ⟨_, _, _, c_Ta_init (r1 := 21) (r2 := 41) (r3 := 42) Q15.1 Q15.2.1 Q15.2.2.1 (by omega), ⟨by omega, by omega⟩, ?_⟩
  rintro r G15 ⟨rfl, S15⟩
  simp (maxSteps := 1000000) (disch := omega) only [slk, List.map_cons, List.map_nil, List.sum_cons, List.sum_nil, vc_i, vc_r, vc_n, vc_l, vc_o, Nat.add_zero, kO_e, kA_e, hdO_a, eq_self, blk, stp, lg, ls0, lk, ls1, ls2, kI_i, kL_l, kR_r, kR_n, kR_o, s1I_i, s2I_i, s1L_l, s2L_l, s1R_r, s1R_n, s1R_o, s1A_a, cmpc, popn, swt, rf_s, rf_n, cat_i, cat_r, cat_n, cat_l, true_and, and_true, List.length_cons, List.length_nil, Nat.zero_add, Int.reduceToNat, Nat.reduceAdd, Nat.reduceDiv, Nat.reduceMod, Nat.reduceMul, Nat.reduceSub, Nat.reduceLeDiff, Nat.reduceLT, Nat.reduceEqDiff, ↓reduceIte, r_gr_wi, r_gl_wi, r_gk_wi, r_gn_wi, r_wi_eq, r_wi_ne, r_wi_nj, r_gi_wr, r_gl_wr, r_gk_wr, r_gn_wr, r_gr_wa, r_gl_wa, r_gk_wa, r_gn_wa, aa_e, as_e, al_e, u_lt, u_le, u_gt, u_ge, u_lt0, u_le0, u_gt0, u_ge0, Classical.not_not, not_true_eq_false, not_false_eq_true, oi_n, oi_m, n_dec, nI_add, pk_mul, n_sub, n_eq, n_le, n_lt, n_eq0, n_lt0, n_le0, n_0lt, n_0le, n_eqm, m_eqn, n_ltm, n_and, n_or, n_xor, n_shl, n_shr, tb1, tb0, bP_1, bP_0, bP_n0, ix_n, inb_n, u_eq, u_eqm, e15, nfc, ← j15, Q15.2.1, kA15, kT15, r15_0, r15_1, r15_2, r15_9]
  have C15 := mk_in (il := [(91, 17)]) A15 S15 (by omega) (by decide +kernel) (g7_17 91)
  have kG15 := mk_k (q := (45, .inr (6, 4))) C15 (by decide +kernel)
  have kO15 := mk_k (q := (91, .inl 8)) C15 (by decide +kernel)
  refine hP.1 _ _ sx_T_init_196 _ _ _ _ _ ?_
  simp (maxSteps := 1000000) (disch := omega) only [gx_T_init_196, slk, List.map_cons, List.map_nil, List.sum_cons, List.sum_nil, vc_i, vc_r, vc_n, vc_l, vc_o, Nat.add_zero, kO_e, kA_e, hdO_a, eq_self, blk, stp, lg, ls0, lk, ls1, ls2, kI_i, kL_l, kR_r, kR_n, kR_o, s1I_i, s2I_i, s1L_l, s2L_l, s1R_r, s1R_n, s1R_o, s1A_a, cmpc, popn, swt, rf_s, rf_n, cat_i, cat_r, cat_n, cat_l, true_and, and_true, List.length_cons, List.length_nil, Nat.zero_add, Int.reduceToNat, Nat.reduceAdd, Nat.reduceDiv, Nat.reduceMod, Nat.reduceMul, Nat.reduceSub, Nat.reduceLeDiff, Nat.reduceLT, Nat.reduceEqDiff, ↓reduceIte, r_gr_wi, r_gl_wi, r_gk_wi, r_gn_wi, r_wi_eq, r_wi_ne, r_wi_nj, r_gi_wr, r_gl_wr, r_gk_wr, r_gn_wr, r_gr_wa, r_gl_wa, r_gk_wa, r_gn_wa, aa_e, as_e, al_e, u_lt, u_le, u_gt, u_ge, u_lt0, u_le0, u_gt0, u_ge0, Classical.not_not, not_true_eq_false, not_false_eq_true, oi_n, oi_m, n_dec, nI_add, pk_mul, n_sub, n_eq, n_le, n_lt, n_eq0, n_lt0, n_le0, n_0lt, n_0le, n_eqm, m_eqn, n_ltm, n_and, n_or, n_xor, n_shl, n_shr, tb1, tb0, bP_1, bP_0, bP_n0, ix_n, inb_n, u_eq, u_eqm, kG15]
  refine ⟨⟨6, 4, rfl, by decide, by decide, of_eq_true (inb_n (show 2 < 4 by omega) (by omega)), fun b eb => (by cases eb; exact ⟨by omega, kO15⟩)⟩, ?_⟩
  refine hP.1 _ _ sx_T_init_197 _ _ _ _ _ ?_
  simp (maxSteps := 1000000) (disch := omega) only [gx_T_init_197, slk, List.map_cons, List.map_nil, List.sum_cons, List.sum_nil, vc_i, vc_r, vc_n, vc_l, vc_o, Nat.add_zero, kO_e, kA_e, hdO_a, eq_self, blk, stp, lg, ls0, lk, ls1, ls2, kI_i, kL_l, kR_r, kR_n, kR_o, s1I_i, s2I_i, s1L_l, s2L_l, s1R_r, s1R_n, s1R_o, s1A_a, cmpc, popn, swt, rf_s, rf_n, cat_i, cat_r, cat_n, cat_l, true_and, and_true, List.length_cons, List.length_nil, Nat.zero_add, Int.reduceToNat, Nat.reduceAdd, Nat.reduceDiv, Nat.reduceMod, Nat.reduceMul, Nat.reduceSub, Nat.reduceLeDiff, Nat.reduceLT, Nat.reduceEqDiff, ↓reduceIte, r_gr_wi, r_gl_wi, r_gk_wi, r_gn_wi, r_wi_eq, r_wi_ne, r_wi_nj, r_gi_wr, r_gl_wr, r_gk_wr, r_gn_wr, r_gr_wa, r_gl_wa, r_gk_wa, r_gn_wa, aa_e, as_e, al_e, u_lt, u_le, u_gt, u_ge, u_lt0, u_le0, u_gt0, u_ge0, Classical.not_not, not_true_eq_false, not_false_eq_true, oi_n, oi_m, n_dec, nI_add, pk_mul, n_sub, n_eq, n_le, n_lt, n_eq0, n_lt0, n_le0, n_0lt, n_0le, n_eqm, m_eqn, n_ltm, n_and, n_or, n_xor, n_shl, n_shr, tb1, tb0, bP_1, bP_0, bP_n0, ix_n, inb_n, u_eq, u_eqm, kG15]
  have B15 := mk_wr (a := 45) (f := 2) (v := 91) C15 ⟨by omega, by omega⟩ (by decide +kernel)
  generalize wr G15 45 2 (some 91) = H16 at B15 ⊢
  have M16 : MKS h H16 99 tK16 tR16 tI16 tN16 := B15
  clear B15 M15
  have kT0_16 := mk_k (q := (20, .inl 11)) M16 (by decide +kernel)
  refine hP.1 _ _ sx_T_init_167 _ _ _ _ _ ?_
  simp (maxSteps := 1000000) (disch := omega) only [gx_T_init_167, slk, List.map_cons, List.map_nil, List.sum_cons, List.sum_nil, vc_i, vc_r, vc_n, vc_l, vc_o, Nat.add_zero, kO_e, kA_e, hdO_a, eq_self, blk, stp, lg, ls0, lk, ls1, ls2, kI_i, kL_l, kR_r, kR_n, kR_o, s1I_i, s2I_i, s1L_l, s2L_l, s1R_r, s1R_n, s1R_o, s1A_a, cmpc, popn, swt, rf_s, rf_n, cat_i, cat_r, cat_n, cat_l, true_and, and_true, List.length_cons, List.length_nil, Nat.zero_add, Int.reduceToNat, Nat.reduceAdd, Nat.reduceDiv, Nat.reduceMod, Nat.reduceMul, Nat.reduceSub, Nat.reduceLeDiff, Nat.reduceLT, Nat.reduceEqDiff, ↓reduceIte, r_gr_wi, r_gl_wi, r_gk_wi, r_gn_wi, r_wi_eq, r_wi_ne, r_wi_nj, r_gi_wr, r_gl_wr, r_gk_wr, r_gn_wr, r_gr_wa, r_gl_wa, r_gk_wa, r_gn_wa, aa_e, as_e, al_e, u_lt, u_le, u_gt, u_ge, u_lt0, u_le0, u_gt0, u_ge0, Classical.not_not, not_true_eq_false, not_false_eq_true, oi_n, oi_m, n_dec, nI_add, pk_mul, n_sub, n_eq, n_le, n_lt, n_eq0, n_lt0, n_le0, n_0lt, n_0le, n_eqm, m_eqn, n_ltm, n_and, n_or, n_xor, n_shl, n_shr, tb1, tb0, bP_1, bP_0, bP_n0, ix_n, inb_n, u_eq, u_eqm, kT0_16]
  refine ⟨fun z => (by first | exact z.elim | exact absurd z (by decide)), fun _ => ?_⟩
  have e16 : gn H16 = 99 := M16.1
  have Q16 := r_al_k H16 (.inl 8) e16
  have A16 := mk_al (kd := .inl 8) M16
  have kT16 := mk_k (q := (20, .inl 11)) M16 (by decide +kernel)
  obtain ⟨J16, j16⟩ : ∃ J, J = al H16 (.inl 8) := ⟨_, rfl⟩
  rw [← j16] at Q16 A16
  have kA16 := mk_k (q := (20, .inl 11)) A16 (by decide +kernel)
  have r16_0 := mk_r (q := (20, 0, 21)) A16 (by decide +kernel)
  have r16_1 := mk_r (q := (20, 5, 41)) A16 (by decide +kernel)
  have r16_2 := mk_r (q := (20, 6, 42)) A16 (by decide +kernel)
  have r16_9 : gr H16 20 7 = some 45 := mk_r (q := (20, 7, 45)) M16 (by decide +kernel)
  refine hP.1 _ _ sx_T_init_172 _ _ _ _ _ ?_
  simp (maxSteps := 1000000) (disch := omega) only [gx_T_init_172, slk, List.map_cons, List.map_nil, List.sum_cons, List.sum_nil, vc_i, vc_r, vc_n, vc_l, vc_o, Nat.add_zero, kO_e, kA_e, hdO_a, eq_self, blk, stp, lg, ls0, lk, ls1, ls2, kI_i, kL_l, kR_r, kR_n, kR_o, s1I_i, s2I_i, s1L_l, s2L_l, s1R_r, s1R_n, s1R_o, s1A_a, cmpc, popn, swt, rf_s, rf_n, cat_i, cat_r, cat_n, cat_l, true_and, and_true, List.length_cons, List.length_nil, Nat.zero_add, Int.reduceToNat, Nat.reduceAdd, Nat.reduceDiv, Nat.reduceMod, Nat.reduceMul, Nat.reduceSub, Nat.reduceLeDiff, Nat.reduceLT, Nat.reduceEqDiff, ↓reduceIte, r_gr_wi, r_gl_wi, r_gk_wi, r_gn_wi, r_wi_eq, r_wi_ne, r_wi_nj, r_gi_wr, r_gl_wr, r_gk_wr, r_gn_wr, r_gr_wa, r_gl_wa, r_gk_wa, r_gn_wa, aa_e, as_e, al_e, u_lt, u_le, u_gt, u_ge, u_lt0, u_le0, u_gt0, u_ge0, Classical.not_not, not_true_eq_false, not_false_eq_true, oi_n, oi_m, n_dec, nI_add, pk_mul, n_sub, n_eq, n_le, n_lt, n_eq0, n_lt0, n_le0, n_0lt, n_0le, n_eqm, m_eqn, n_ltm, n_and, n_or, n_xor, n_shl, n_shr, tb1, tb0, bP_1, bP_0, bP_n0, ix_n, inb_n, u_eq, u_eqm, e16, nfc, ← j16, Q16.2.1, kA16, kT16, r16_0, r16_1, r16_2, r16_9]
  refine ⟨_, _, _, c_Ta_init (r1 := 21) (r2 := 41) (r3 := 42) Q16.1 Q16.2.1 Q16.2.2.1 (by omega), ⟨by omega, by omega⟩, ?_⟩
  rintro r G16 ⟨rfl, S16⟩
  simp (maxSteps := 1000000) (disch := omega) only [slk, List.map_cons, List.map_nil, List.sum_cons, List.sum_nil, vc_i, vc_r, vc_n, vc_l, vc_o, Nat.add_zero, kO_e, kA_e, hdO_a, eq_self, blk, stp, lg, ls0, lk, ls1, ls2, kI_i, kL_l, kR_r, kR_n, kR_o, s1I_i, s2I_i, s1L_l, s2L_l, s1R_r, s1R_n, s1R_o, s1A_a, cmpc, popn, swt, rf_s, rf_n, cat_i, cat_r, cat_n, cat_l, true_and, and_true, List.length_cons, List.length_nil, Nat.zero_add, Int.reduceToNat, Nat.reduceAdd, Nat.reduceDiv, Nat.reduceMod, Nat.reduceMul, Nat.reduceSub, Nat.reduceLeDiff, Nat.reduceLT, Nat.reduceEqDiff, ↓reduceIte, r_gr_wi, r_gl_wi, r_gk_wi, r_gn_wi, r_wi_eq, r_wi_ne, r_wi_nj, r_gi_wr, r_gl_wr, r_gk_wr, r_gn_wr, r_gr_wa, r_gl_wa, r_gk_wa, r_gn_wa, aa_e, as_e, al_e, u_lt, u_le, u_gt, u_ge, u_lt0, u_le0, u_gt0, u_ge0, Classical.not_not, not_true_eq_false, not_false_eq_true, oi_n, oi_m, n_dec, nI_add, pk_mul, n_sub, n_eq, n_le, n_lt, n_eq0, n_lt0, n_le0, n_0lt, n_0le, n_eqm, m_eqn, n_ltm, n_and, n_or, n_xor, n_shl, n_shr, tb1, tb0, bP_1, bP_0, bP_n0, ix_n, inb_n, u_eq, u_eqm, e16, nfc, ← j16, Q16.2.1, kA16, kT16, r16_0, r16_1, r16_2, r16_9]
  have C16 := mk_in (il := [(99, 17)]) A16 S16 (by omega) (by decide +kernel) (g7_17 99)
  have kG16 := mk_k (q := (45, .inr (6, 4))) C16 (by decide +kernel)
  have kO16 := mk_k (q := (99, .inl 8)) C16 (by decide +kernel)
  refine hP.1 _ _ sx_T_init_196 _ _ _ _ _ ?_
  simp (maxSteps := 1000000) (disch := omega) only [gx_T_init_196, slk, List.map_cons, List.map_nil, List.sum_cons, List.sum_nil, vc_i, vc_r, vc_n, vc_l, vc_o, Nat.add_zero, kO_e, kA_e, hdO_a, eq_self, blk, stp, lg, ls0, lk, ls1, ls2, kI_i, kL_l, kR_r, kR_n, kR_o, s1I_i, s2I_i, s1L_l, s2L_l, s1R_r, s1R_n, s1R_o, s1A_a, cmpc, popn, swt, rf_s, rf_n, cat_i, cat_r, cat_n, cat_l, true_and, and_true, List.length_cons, List.length_nil, Nat.zero_add, Int.reduceToNat, Nat.reduceAdd, Nat.reduceDiv, Nat.reduceMod, Nat.reduceMul, Nat.reduceSub, Nat.reduceLeDiff, Nat.reduceLT, Nat.reduceEqDiff, ↓reduceIte, r_gr_wi, r_gl_wi, r_gk_wi, r_gn_wi, r_wi_eq, r_wi_ne, r_wi_nj, r_gi_wr, r_gl_wr, r_gk_wr, r_gn_wr, r_gr_wa, r_gl_wa, r_gk_wa, r_gn_wa, aa_e, as_e, al_e, u_lt, u_le, u_gt, u_ge, u_lt0, u_le0, u_gt0, u_ge0, Classical.not_not, not_true_eq_false, not_false_eq_true, oi_n, oi_m, n_dec, nI_add, pk_mul, n_sub, n_eq, n_le, n_lt, n_eq0, n_lt0, n_le0, n_0lt, n_0le, n_eqm, m_eqn, n_ltm, n_and, n_or, n_xor, n_shl, n_shr, tb1, tb0, bP_1, bP_0, bP_n0, ix_n, inb_n, u_eq, u_eqm, kG16]
  refine ⟨⟨6, 4, rfl, by decide, by decide, of_eq_true (inb_n (show 3 < 4 by omega) (by omega)), fun b eb => (by cases eb; exact ⟨by omega, kO16⟩)⟩, ?_⟩
  refine hP.1 _ _ sx_T_init_197 _ _ _ _ _ ?_
  simp (maxSteps := 1000000) (disch := omega) only [gx_T_init_197, slk, List.map_cons, List.map_nil, List.sum_cons, List.sum_nil, vc_i, vc_r, vc_n, vc_l, vc_o, Nat.add_zero, kO_e, kA_e, hdO_a, eq_self, blk, stp, lg, ls0, lk, ls1, ls2, kI_i, kL_l, kR_r, kR_n, kR_o, s1I_i, s2I_i, s1L_l, s2L_l, s1R_r, s1R_n, s1R_o, s1A_a, cmpc, popn, swt, rf_s, rf_n, cat_i, cat_r, cat_n, cat_l, true_and, and_true, List.length_cons, List.length_nil, Nat.zero_add, Int.reduceToNat, Nat.reduceAdd, Nat.reduceDiv, Nat.reduceMod, Nat.reduceMul, Nat.reduceSub, Nat.reduceLeDiff, Nat.reduceLT, Nat.reduceEqDiff, ↓reduceIte, r_gr_wi, r_gl_wi, r_gk_wi, r_gn_wi, r_wi_eq, r_wi_ne, r_wi_nj, r_gi_wr, r_gl_wr, r_gk_wr, r_gn_wr, r_gr_wa, r_gl_wa, r_gk_wa, r_gn_wa, aa_e, as_e, al_e, u_lt, u_le, u_gt, u_ge, u_lt0, u_le0, u_gt0, u_ge0, Classical.not_not, not_true_eq_false, not_false_eq_true, oi_n, oi_m, n_dec, nI_add, pk_mul, n_sub, n_eq, n_le, n_lt, n_eq0, n_lt0, n_le0, n_0lt, n_0le, n_eqm, m_eqn, n_ltm, n_and, n_or, n_xor, n_shl, n_shr, tb1, tb0, bP_1, bP_0, bP_n0, ix_n, inb_n, u_eq, u_eqm, kG16]
  have B16 := mk_wr (a := 45) (f := 3) (v := 99) C16 ⟨by omega, by omega⟩ (by decide +kernel)
  generalize wr G16 45 3 (some 99) = H17 at B16 ⊢
  have M17 : MKS h H17 107 tK17 tR17 tI17 tN17 := B16
  clear B16 M16
  have kT17 := mk_k (q := (20, .inl 11)) M17 (by decide +kernel)
  refine hP.1 _ _ sx_T_init_167 _ _ _ _ _ ?_
  simp (maxSteps := 1000000) (disch := omega) only [gx_T_init_167, slk, List.map_cons, List.map_nil, List.sum_cons, List.sum_nil, vc_i, vc_r, vc_n, vc_l, vc_o, Nat.add_zero, kO_e, kA_e, hdO_a, eq_self, blk, stp, lg, ls0, lk, ls1, ls2, kI_i, kL_l, kR_r, kR_n, kR_o, s1I_i, s2I_i, s1L_l, s2L_l, s1R_r, s1R_n, s1R_o, s1A_a, cmpc, popn, swt, rf_s, rf_n, cat_i, cat_r, cat_n, cat_l, true_and, and_true, List.length_cons, List.length_nil, Nat.zero_add, Int.reduceToNat, Nat.reduceAdd, Nat.reduceDiv, Nat.reduceMod, Nat.reduceMul, Nat.reduceSub, Nat.reduceLeDiff, Nat.reduceLT, Nat.reduceEqDiff, ↓reduceIte, r_gr_wi, r_gl_wi, r_gk_wi, r_gn_wi, r_wi_eq, r_wi_ne, r_wi_nj, r_gi_wr, r_gl_wr, r_gk_wr, r_gn_wr, r_gr_wa, r_gl_wa, r_gk_wa, r_gn_wa, aa_e, as_e, al_e, u_lt, u_le, u_gt, u_ge, u_lt0, u_le0, u_gt0, u_ge0, Classical.not_not, not_true_eq_false, not_false_eq_true, oi_n, oi_m, n_dec, nI_add, pk_mul, n_sub, n_eq, n_le, n_lt, n_eq0, n_lt0, n_le0, n_0lt, n_0le, n_eqm, m_eqn, n_ltm, n_and, n_or, n_xor, n_shl, n_shr, tb1, tb0, bP_1, bP_0, bP_n0, ix_n, inb_n, u_eq, u_eqm, kT17]
  refine ⟨fun _ => ?_, fun z => (by first | exact z.elim | exact absurd z (by decide))⟩
  refine hP.1 _ _ sx_T_init_203 _ _ _ _ _ ?_
  simp (maxSteps := 1000000) (disch := omega) only [gx_T_init_203, slk, List.map_cons, List.map_nil, List.sum_cons, List.sum_nil, vc_i, vc_r, vc_n, vc_l, vc_o, Nat.add_zero, kO_e, kA_e, hdO_a, eq_self, blk, stp, lg, ls0, lk, ls1, ls2, kI_i, kL_l, kR_r, kR_n, kR_o, s1I_i, s2I_i, s1L_l, s2L_l, s1R_r, s1R_n, s1R_o, s1A_a, cmpc, popn, swt, rf_s, rf_n, cat_i, cat_r, cat_n, cat_l, true_and, and_true, List.length_cons, List.length_nil, Nat.zero_add, Int.reduceToNat, Nat.reduceAdd, Nat.reduceDiv, Nat.reduceMod, Nat.reduceMul, Nat.reduceSub, Nat.reduceLeDiff, Nat.reduceLT, Nat.reduceEqDiff, ↓reduceIte, r_gr_wi, r_gl_wi, r_gk_wi, r_gn_wi, r_wi_eq, r_wi_ne, r_wi_nj, r_gi_wr, r_gl_wr, r_gk_wr, r_gn_wr, r_gr_wa, r_gl_wa, r_gk_wa, r_gn_wa, aa_e, as_e, al_e, u_lt, u_le, u_gt, u_ge, u_lt0, u_le0, u_gt0, u_ge0, Classical.not_not, not_true_eq_false, not_false_eq_true, oi_n, oi_m, n_dec, nI_add, pk_mul, n_sub, n_eq, n_le, n_lt, n_eq0, n_lt0, n_le0, n_0lt, n_0le, n_eqm, m_eqn, n_ltm, n_and, n_or, n_xor, n_shl, n_shr, tb1, tb0, bP_1, bP_0, bP_n0, ix_n, inb_n, u_eq, u_eqm, kT17]
  rw [r_T_init]
  exact ⟨trivial, rfl, M17⟩
end
