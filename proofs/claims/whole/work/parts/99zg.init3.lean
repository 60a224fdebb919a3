/-! ===== the class's beginning: the circle ===== -/
theorem n_Ci_init : mN 149 = 1 := rfl
theorem l_Ci_init : mL 149 = 1 := rfl
theorem r_Ci_init : mR 149 = none := rfl
section
variable {o k i f v : Nat} {h H : AH} {KS : List (Nat × (Nat × Nat))} {RL : List (Nat × Nat)} {g7 : Nat → Int32}
theorem ro_alm (S : RIo o k h H i KS RL g7) : RIo o k h (alm H 8 8) (i + 9) ((i + 8, (0, 8)) :: (i + 7, (0, 8)) :: (i + 6, (0, 8)) :: (i + 5, (0, 8)) :: (i + 4, (0, 8)) :: (i + 3, (0, 8)) :: (i + 2, (0, 8)) :: (i + 1, (0, 8)) :: (i, (7, 8)) :: KS) RL g7 ∧ (∀ e, e < 8 → gr (alm H 8 8) (o + 1 + i) e = some (o + 1 + i + 1 + e)) := by
  obtain ⟨s1, s2, s3, s4, s5, s6, s7⟩ := S
  have gka : ∀ a, gk (alm H 8 8) a = if a = gn H then some (.inr (7, 8)) else if gn H < a ∧ a ≤ gn H + 8 then some (.inr (0, 8)) else gk H a := fun a => rfl
  have gia : ∀ a, gi (alm H 8 8) a = if gn H ≤ a ∧ a ≤ gn H + 8 then (fun _ => 0) else gi H a := fun a => rfl
  have gra : ∀ a, gr (alm H 8 8) a = if a = gn H then (fun j => if j < 8 then some (gn H + 1 + j) else none) else if gn H < a ∧ a ≤ gn H + 8 then (fun _ => none) else gr H a := fun a => rfl
  have gla : ∀ a, gl (alm H 8 8) a = if gn H ≤ a ∧ a ≤ gn H + 8 then (fun _ => 0) else gl H a := fun a => rfl
  have old : ∀ a, a < o + 1 + i → gk (alm H 8 8) a = gk H a ∧ gi (alm H 8 8) a = gi H a ∧ gr (alm H 8 8) a = gr H a ∧ gl (alm H 8 8) a = gl H a := fun a ha => by
    refine ⟨?_, ?_, ?_, ?_⟩
    · rw [gka, if_neg (by omega), if_neg (by omega)]
    · rw [gia, if_neg (by omega)]
    · rw [gra, if_neg (by omega), if_neg (by omega)]
    · rw [gla, if_neg (by omega)]
  have new : ∀ j, 1 ≤ j → j ≤ 8 → gk (alm H 8 8) (o + 1 + (i + j)) = some (.inr (0, 8)) := fun j h1 h2 => by
    rw [gka, if_neg (by omega), if_pos (by omega)]
  refine ⟨⟨?_, fun a q => ?_, ?_, ?_, fun a q1 q2 => ?_, ?_, fun q hq => ?_⟩, fun e he => ?_⟩
  · show gn H + 1 + 8 = _
    omega
  · have r := old a (by omega)
    have t := s2 a q
    exact ⟨r.1.trans t.1, r.2.1.trans t.2.1, r.2.2.1.trans t.2.2.1, r.2.2.2.trans t.2.2.2⟩
  · exact (old o (by omega)).1.trans s3
  · exact (old o (by omega)).2.1.trans s4
  · rw [gia]
    by_cases z : gn H ≤ a ∧ a ≤ gn H + 8
    · rw [if_pos z]
    · rw [if_neg z]
      exact s5 a q1 (by omega)
  · have nw : ∀ j, 1 ≤ j → j ≤ 8 → gk (alm H 8 8) (o + 1 + (i + j)) = some (.inr (0, 8)) ∧ i + j < i + 9 := fun j h1 h2 => ⟨new j h1 h2, by omega⟩
    intro q hq
    rcases List.mem_cons.mp hq with e | hq
    · subst e; exact nw 8 (by omega) (by omega)
    rcases List.mem_cons.mp hq with e | hq
    · subst e; exact nw 7 (by omega) (by omega)
    rcases List.mem_cons.mp hq with e | hq
    · subst e; exact nw 6 (by omega) (by omega)
    rcases List.mem_cons.mp hq with e | hq
    · subst e; exact nw 5 (by omega) (by omega)
    rcases List.mem_cons.mp hq with e | hq
    · subst e; exact nw 4 (by omega) (by omega)
    rcases List.mem_cons.mp hq with e | hq
    · subst e; exact nw 3 (by omega) (by omega)
    rcases List.mem_cons.mp hq with e | hq
    · subst e; exact nw 2 (by omega) (by omega)
    rcases List.mem_cons.mp hq with e | hq
    · subst e; exact nw 1 (by omega) (by omega)
    rcases List.mem_cons.mp hq with e | hq
    · subst e
      refine ⟨?_, by show i < i + 9; omega⟩
      show gk (alm H 8 8) (o + 1 + i) = _
      rw [gka, if_pos (by omega)]
    · have t := s6 q hq
      rw [(old (o + 1 + q.1) (by omega)).1]
      exact ⟨t.1, by omega⟩
  · rw [(old o (by omega)).2.2.1]
    exact s7 q hq
  · rw [gra, if_pos (by omega)]
    show (if e < 8 then some (gn H + 1 + e) else none) = _
    rw [if_pos he, s1]
end
def kCiI : List (Nat × (Nat × Nat)) := [(11, (0, 8)), (10, (5, 8)), (9, (0, 8)), (8, (0, 8)), (7, (0, 8)), (6, (0, 8)), (5, (0, 8)), (4, (0, 8)), (3, (0, 8)), (2, (0, 8)), (1, (7, 8)), (0, (0, 8))]
def PCi (o : Nat) (h : AH) (r : Option (Option Value)) (H : AH) : Prop := r = some none ∧ RIo o 1 h H 12 kCiI [(3, o + 12), (2, o + 11), (1, o + 2), (0, o + 1)] (fun _ => 0) ∧ (∀ e, e < 8 → gr H (o + 2) e = some (o + 3 + e)) ∧ ∀ e, gr H (o + 11) e = none
section
variable {h : AH} {d o : Nat}
theorem c_Ci_init (hg : gn h = o + 1) (hk : gk h o = some (.inl 1)) (hi : gi h o = fun _ => 0) (ho : 20 ≤ o) : Mz (d + 1) 149 [.ref o] h 12 96 (PCi o h) := by
  refine mz_in (l := [some (.ref o)]) mk_Ci_init n_Ci_init rfl l_Ci_init rfl (Nat.le_of_ble_eq_true rfl) fun P hP => ?_
  have S0 : RIo o 1 h h 0 [] [] (fun _ => 0) := ⟨hg, fun a q => ⟨rfl, rfl, rfl, rfl⟩, hk, hi, fun a q1 q2 => (by exfalso; omega), fun q hq => (by cases hq), fun q hq => (by cases hq)⟩
  have T0 := ro_al (kd := (0, 8)) S0
  have a0 : gk (al h (.inr (0, 8))) o = some (.inl 1) := T0.2.2.1
  have n0 : gn (al h (.inr (0, 8))) = o + 2 := by rw [T0.1]
  have S1 := ro_wr (f := 0) (v := o + 1) T0 rfl
  obtain ⟨W1, w1⟩ : ∃ W1, W1 = wr (al h (.inr (0, 8))) o 0 (some (o + 1)) := ⟨_, rfl⟩
  rw [← w1] at S1
  have e1 : gn W1 = o + 2 := by rw [S1.1]
  obtain ⟨T1, r1⟩ := ro_alm S1
  have a1 : gk (alm W1 8 8) o = some (.inl 1) := T1.2.2.1
  have n1 : gn (alm W1 8 8) = o + 11 := by rw [T1.1]
  have S2 := ro_wr (f := 1) (v := o + 2) T1 rfl
  obtain ⟨W2, w2⟩ : ∃ W2, W2 = wr (alm W1 8 8) o 1 (some (o + 2)) := ⟨_, rfl⟩
  rw [← w2] at S2
  have e2 : gn W2 = o + 11 := by rw [S2.1]
  have T2 := ro_al (kd := (5, 8)) S2
  have R2 := r_al_k W2 (.inr (5, 8)) e2
  have a2 : gk (al W2 (.inr (5, 8))) o = some (.inl 1) := T2.2.2.1
  have n2 : gn (al W2 (.inr (5, 8))) = o + 12 := by rw [T2.1]
  have S3 := ro_wr (f := 2) (v := o + 11) T2 rfl
  obtain ⟨W3, w3⟩ : ∃ W3, W3 = wr (al W2 (.inr (5, 8))) o 2 (some (o + 11)) := ⟨_, rfl⟩
  rw [← w3] at S3
  have e3 : gn W3 = o + 12 := by rw [S3.1]
  have T3 := ro_al (kd := (0, 8)) S3
  have R3 := r_al_k W3 (.inr (0, 8)) e3
  have a3 : gk (al W3 (.inr (0, 8))) o = some (.inl 1) := T3.2.2.1
  have S4 := ro_wr (f := 3) (v := o + 12) T3 rfl
  refine hP.1 _ _ s_Ci_init_0 _ _ _ _ _ ?_
  simp (maxSteps := 1000000) (disch := omega) only [g_Ci_init_0, slk, List.map_cons, List.map_nil, List.sum_cons, List.sum_nil, vc_i, vc_r, vc_n, vc_l, vc_o, Nat.add_zero, kO_e, kA_e, hdO_a, eq_self, blk, stp, lg, ls0, lk, ls1, ls2, kI_i, kL_l, kR_r, kR_n, kR_o, s1I_i, s2I_i, s1L_l, s2L_l, s1R_r, s1R_n, s1R_o, s1A_a, cmpc, popn, swt, rf_s, rf_n, cat_i, cat_r, cat_n, cat_l, true_and, and_true, List.length_cons, List.length_nil, Nat.zero_add, Int.reduceToNat, Nat.reduceAdd, Nat.reduceDiv, Nat.reduceMod, Nat.reduceMul, Nat.reduceSub, Nat.reduceLeDiff, Nat.reduceLT, Nat.reduceEqDiff, ↓reduceIte, r_gr_wi, r_gl_wi, r_gk_wi, r_gn_wi, r_wi_eq, r_wi_ne, r_wi_nj, r_gi_wr, r_gl_wr, r_gk_wr, r_gn_wr, r_gr_wa, r_gl_wa, r_gk_wa, r_gn_wa, aa_e, as_e, al_e, u_lt, u_le, u_gt, u_ge, u_lt0, u_le0, u_gt0, u_ge0, Classical.not_not, not_true_eq_false, not_false_eq_true, oi_n, oi_m, n_dec, nI_add, pk_mul, n_sub, n_eq, n_le, n_lt, n_eq0, n_lt0, n_le0, n_0lt, n_0le, n_eqm, m_eqn, n_ltm, n_and, n_or, n_xor, n_shl, n_shr, tb1, tb0, bP_1, bP_0, bP_n0, ix_n, inb_n, u_eq, u_eqm, ho, hg, aty, a0, n0, ← w1, e1, a1, n1, ← w2, e2, a2, n2, ← w3, e3, a3]
  rw [r_Ci_init]
  refine ⟨trivial, rfl, S4, fun e he => ?_, fun e => ?_⟩
  · rw [r_wr_ne _ _ (by omega), (R3.2.2.2.2 (o + 2) (by omega)).2.2.1, w3, r_wr_ne _ _ (by omega), (R2.2.2.2.2 (o + 2) (by omega)).2.2.1, w2, r_wr_ne _ _ (by omega)]
    have := r1 e he
    rw [show o + 1 + (0 + 1) = o + 2 by omega] at this
    rw [this]
  · rw [r_wr_ne _ _ (by omega), (R3.2.2.2.2 (o + 11) (by omega)).2.2.1, w3, r_wr_ne _ _ (by omega), R2.2.2.2.1]
end
