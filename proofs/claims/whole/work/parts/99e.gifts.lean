/-! ===== the class: gifts and trades ===== -/
theorem n_Gf_between : mN 168 = 3 := rfl
theorem l_Gf_between : mL 168 = 5 := rfl
theorem r_Gf_between : mR 168 = some .int := rfl
theorem n_Gf_fewestFor : mN 169 = 4 := rfl
theorem l_Gf_fewestFor : mL 169 = 7 := rfl
theorem r_Gf_fewestFor : mR 169 = some .int := rfl
theorem n_Gf_gather : mN 170 = 3 := rfl
theorem l_Gf_gather : mL 170 = 5 := rfl
theorem r_Gf_gather : mR 170 = none := rfl
theorem n_Gf_isGiven : mN 171 = 2 := rfl
theorem l_Gf_isGiven : mL 171 = 4 := rfl
theorem r_Gf_isGiven : mR 171 = some .boolean := rfl
theorem n_Gf_isEnough : mN 172 = 3 := rfl
theorem l_Gf_isEnough : mL 172 = 5 := rfl
theorem r_Gf_isEnough : mR 172 = some .boolean := rfl
theorem n_Gf_unborneBy : mN 173 = 4 := rfl
theorem l_Gf_unborneBy : mL 173 = 6 := rfl
theorem r_Gf_unborneBy : mR 173 = some .int := rfl
/-- gifts as the class keeps them -/
def GFC (h : AH) (s : St) : Prop := gi h 61 10 = nI (s 107 77) ∧ ∀ k, k < s 107 77 → gi h 62 k = nI (s 151 k) ∧ gi h 63 k = nI (s 152 k) ∧ gi h 64 k = nI (4 * s 153 k + s 154 k) ∧ gi h 65 k = nI (s 155 k) ∧ gi h 66 k = nI (4 * s 156 k + s 157 k)
theorem Fp.gfc {X : Nat → Prop} {h h' : AH} (F : Fp X h h') {s : St} (G : GFC h s) (h10 : gi h' 61 10 = gi h 61 10) (hx : ∀ a, X a → a < 62 ∨ 66 < a) : GFC h' s := by
  have e : ∀ a, 62 ≤ a → a ≤ 66 → gi h' a = gi h a := fun a h1 h2 => F.2 a (fun q => by have := hx a q; omega)
  refine ⟨h10.trans G.1, fun k hk => ?_⟩
  rw [e 62 (by omega) (by omega), e 63 (by omega) (by omega), e 64 (by omega) (by omega), e 65 (by omega) (by omega), e 66 (by omega) (by omega)]
  exact G.2 k hk
noncomputable def btN (s : St) (m o n : Nat) : Nat := orN n (fun i => nif (s 152 i = m ∧ s 155 i = o ∧ s 111 (s 151 i) = 0) (1 <<< i) 0)
theorem btN_bit (s : St) (m o n i : Nat) : (btN s m o n).testBit i = true ↔ i < n ∧ s 152 i = m ∧ s 155 i = o ∧ s 111 (s 151 i) = 0 := by
  unfold btN
  rw [orN_bit]
  constructor
  · rintro ⟨j, hj, q⟩
    by_cases z : s 152 j = m ∧ s 155 j = o ∧ s 111 (s 151 j) = 0
    · rw [nif_t z, bit_one] at q
      subst q
      exact ⟨hj, z⟩
    · rw [nif_f z, Nat.zero_testBit] at q
      cases q
  · rintro ⟨h1, h2⟩
    refine ⟨i, h1, ?_⟩
    rw [nif_t h2, bit_one]
theorem btN_lt {s : St} {m o n : Nat} (hn : n ≤ 8) : btN s m o n < 2 ^ 8 := orN_lt fun j hj => by
  by_cases z : s 152 j = m ∧ s 155 j = o ∧ s 111 (s 151 j) = 0
  · rw [nif_t z]
    exact one_lt (by omega)
  · rw [nif_f z]
    decide
/-- gathered: those that count, in their order -/
noncomputable def gaL (C : Nat → Prop) (f : Nat → Nat) : Nat → List Nat
  | 0 => []
  | k + 1 => ifO (C k) (gaL C f k ++ [f k]) (gaL C f k)
theorem gaL_len (C : Nat → Prop) (f : Nat → Nat) : ∀ n, (gaL C f n).length ≤ n := by
  intro n
  induction n with
  | zero => exact Nat.le_refl _
  | succ n ih =>
    by_cases q : C n
    · rw [show gaL C f (n + 1) = gaL C f n ++ [f n] from ifO_t q, List.length_append]
      show (gaL C f n).length + 1 ≤ n + 1
      omega
    · rw [show gaL C f (n + 1) = gaL C f n from ifO_f q]
      omega
theorem mem_gaL {C : Nat → Prop} {f : Nat → Nat} {y : Nat} : ∀ {n}, y ∈ gaL C f n ↔ ∃ k, k < n ∧ C k ∧ f k = y := by
  intro n
  induction n with
  | zero => exact ⟨fun h => (by cases h), fun ⟨k, h, _⟩ => absurd h (Nat.not_lt_zero _)⟩
  | succ n ih =>
    by_cases q : C n
    · rw [show gaL C f (n + 1) = gaL C f n ++ [f n] from ifO_t q, List.mem_append, ih, List.mem_singleton]
      constructor
      · rintro (⟨k, a, b, c⟩ | e)
        · exact ⟨k, by omega, b, c⟩
        · exact ⟨n, by omega, q, e.symm⟩
      · rintro ⟨k, a, b, c⟩
        by_cases e : k = n
        · subst e
          exact Or.inr c.symm
        · exact Or.inl ⟨k, by omega, b, c⟩
    · rw [show gaL C f (n + 1) = gaL C f n from ifO_f q, ih]
      constructor
      · rintro ⟨k, a, b, c⟩
        exact ⟨k, by omega, b, c⟩
      · rintro ⟨k, a, b, c⟩
        refine ⟨k, ?_, b, c⟩
        by_cases e : k = n
        · subst e
          exact absurd b q
        · omega
def c1P (s : St) (m x : Nat) : Prop := isPr s m x ∧ clB s m (slN (s 112 m) (s 113 m) x) (CL s m).length &&& thoN s = 0
def c2P (s : St) (o x : Nat) : Prop := isPr s o x ∧ abP s o x
noncomputable def fsL (s : St) (m n : Nat) : List Nat := gaL (c1P s m) (slN (s 112 m) (s 113 m)) n
noncomputable def ssL (s : St) (o n : Nat) : List Nat := gaL (c2P s o) (slN (s 112 o) (s 113 o)) n
theorem getD_ap (l : List Nat) (x k : Nat) : (l ++ [x]).getD k 0 = if k < l.length then l.getD k 0 else if k = l.length then x else 0 := by
  by_cases h1 : k < l.length
  · rw [if_pos h1, List.getD_eq_getElem?_getD, List.getElem?_append_left h1, ← List.getD_eq_getElem?_getD]
  · rw [if_neg h1, List.getD_eq_getElem?_getD, List.getElem?_append_right (by omega)]
    by_cases h2 : k = l.length
    · rw [if_pos h2, h2, Nat.sub_self]
      rfl
    · rw [if_neg h2, List.getElem?_eq_none (by simp only [List.length_cons, List.length_nil]; omega)]
      rfl
theorem gaL_lt {C : Nat → Prop} {f : Nat → Nat} {n c : Nat} (hf : ∀ x, f x < c) (hc : 0 < c) (j : Nat) : (gaL C f n).getD j 0 < c := getD_ltL (fun x hx => by
  obtain ⟨k, _, _, e⟩ := mem_gaL.mp hx
  rw [← e]
  exact hf k) hc j
section
variable {h : AH} {s : St} {d b c : Nat}
theorem c_Gf_between (W : RH h s) {h2 : AH} (L : Lay h2) (C : CC h2 s) (G : GFC h2 s) {m o : Nat} (hm : m < s 107 19) (ho : o < s 107 19) : Mz (d + 2) 168 [.ref 61, .int (nI m), .int (nI o)] h2 0 0 (Rt (nI (btN s m o (s 107 77))) h2) := by
  have b1 := rs_e W
  have b2 := rs_gf W
  have b3 := rs_m W
  have tl := tho_lt W
  refine mz_in (l := [some (.ref 61), some (.int (nI m)), some (.int (nI o)), none, none]) mk_Gf_between n_Gf_between rfl l_Gf_between rfl (Nat.le_of_ble_eq_true rfl) fun P hP => ?_
  have loop : ∀ n k, k + n = s 107 77 → P 5 [some (.ref 61), some (.int (nI m)), some (.int (nI o)), some (.int (nI (btN s m o k))), some (.int (nI k))] [] h2 0 0 := by
    intro n
    induction n using Nat.strongRecOn with
    | _ n ih =>
      intro k hk
      refine hP.1 _ _ s_Gf_between_5 _ _ _ _ _ ?_
      simp (maxSteps := 1000000) (disch := omega) only [g_Gf_between_5, slk, List.map_cons, List.map_nil, List.sum_cons, List.sum_nil, vc_i, vc_r, vc_n, vc_l, vc_o, Nat.add_zero, kO_e, kA_e, hdO_a, eq_self, blk, stp, lg, ls0, lk, ls1, ls2, kI_i, kL_l, kR_r, kR_n, kR_o, s1I_i, s2I_i, s1L_l, s2L_l, s1R_r, s1R_n, s1R_o, s1A_a, cmpc, popn, swt, rf_s, rf_n, cat_i, cat_r, cat_n, cat_l, true_and, and_true, List.length_cons, List.length_nil, Nat.zero_add, Int.reduceToNat, Nat.reduceAdd, Nat.reduceDiv, Nat.reduceMod, Nat.reduceMul, Nat.reduceSub, Nat.reduceLeDiff, Nat.reduceLT, Nat.reduceEqDiff, ↓reduceIte, r_gr_wi, r_gl_wi, r_gk_wi, r_gn_wi, r_wi_eq, r_wi_ne, r_wi_nj, r_gi_wr, r_gl_wr, r_gk_wr, r_gn_wr, r_gr_wa, r_gl_wa, r_gk_wa, r_gn_wa, aa_e, as_e, al_e, u_lt, u_le, u_gt, u_ge, u_lt0, u_le0, u_gt0, u_ge0, Classical.not_not, not_true_eq_false, not_false_eq_true, oi_n, oi_m, n_dec, nI_add, pk_mul, n_sub, n_eq, n_le, n_lt, n_eq0, n_lt0, n_le0, n_0lt, n_0le, n_eqm, m_eqn, n_ltm, n_and, n_or, n_xor, n_shl, n_shr, tb1, tb0, bP_1, bP_0, bP_n0, ix_n, inb_n, u_eq, u_eqm, k61 L, G.1]
      refine ⟨fun hc => ?_, fun hc => ?_⟩
      · have e1 : k = s 107 77 := by omega
        subst e1
        refine hP.1 _ _ s_Gf_between_66 _ _ _ _ _ ?_
        simp (maxSteps := 1000000) (disch := omega) only [g_Gf_between_66, slk, List.map_cons, List.map_nil, List.sum_cons, List.sum_nil, vc_i, vc_r, vc_n, vc_l, vc_o, Nat.add_zero, kO_e, kA_e, hdO_a, eq_self, blk, stp, lg, ls0, lk, ls1, ls2, kI_i, kL_l, kR_r, kR_n, kR_o, s1I_i, s2I_i, s1L_l, s2L_l, s1R_r, s1R_n, s1R_o, s1A_a, cmpc, popn, swt, rf_s, rf_n, cat_i, cat_r, cat_n, cat_l, true_and, and_true, List.length_cons, List.length_nil, Nat.zero_add, Int.reduceToNat, Nat.reduceAdd, Nat.reduceDiv, Nat.reduceMod, Nat.reduceMul, Nat.reduceSub, Nat.reduceLeDiff, Nat.reduceLT, Nat.reduceEqDiff, ↓reduceIte, r_gr_wi, r_gl_wi, r_gk_wi, r_gn_wi, r_wi_eq, r_wi_ne, r_wi_nj, r_gi_wr, r_gl_wr, r_gk_wr, r_gn_wr, r_gr_wa, r_gl_wa, r_gk_wa, r_gn_wa, aa_e, as_e, al_e, u_lt, u_le, u_gt, u_ge, u_lt0, u_le0, u_gt0, u_ge0, Classical.not_not, not_true_eq_false, not_false_eq_true, oi_n, oi_m, n_dec, nI_add, pk_mul, n_sub, n_eq, n_le, n_lt, n_eq0, n_lt0, n_le0, n_0lt, n_0le, n_eqm, m_eqn, n_ltm, n_and, n_or, n_xor, n_shl, n_shr, tb1, tb0, bP_1, bP_0, bP_n0, ix_n, inb_n, u_eq, u_eqm, G.1]
        exact lfI r_Gf_between rfl rfl
      · have hk2 : k < s 107 77 := by omega
        have g := G.2 k hk2
        have rk := rs_gif W hk2
        have e2 : btN s m o (k + 1) = btN s m o k ||| nif (s 152 k = m ∧ s 155 k = o ∧ s 111 (s 151 k) = 0) (1 <<< k) 0 := rfl
        have nx : ∀ y, y = btN s m o (k + 1) → P 60 [some (.ref 61), some (.int (nI m)), some (.int (nI o)), some (.int (nI y)), some (.int (nI k))] [] h2 0 0 := by
          intro y ey
          refine hP.1 _ _ s_Gf_between_60 _ _ _ _ _ ?_
          simp (maxSteps := 1000000) (disch := omega) only [g_Gf_between_60, slk, List.map_cons, List.map_nil, List.sum_cons, List.sum_nil, vc_i, vc_r, vc_n, vc_l, vc_o, Nat.add_zero, kO_e, kA_e, hdO_a, eq_self, blk, stp, lg, ls0, lk, ls1, ls2, kI_i, kL_l, kR_r, kR_n, kR_o, s1I_i, s2I_i, s1L_l, s2L_l, s1R_r, s1R_n, s1R_o, s1A_a, cmpc, popn, swt, rf_s, rf_n, cat_i, cat_r, cat_n, cat_l, true_and, and_true, List.length_cons, List.length_nil, Nat.zero_add, Int.reduceToNat, Nat.reduceAdd, Nat.reduceDiv, Nat.reduceMod, Nat.reduceMul, Nat.reduceSub, Nat.reduceLeDiff, Nat.reduceLT, Nat.reduceEqDiff, ↓reduceIte, r_gr_wi, r_gl_wi, r_gk_wi, r_gn_wi, r_wi_eq, r_wi_ne, r_wi_nj, r_gi_wr, r_gl_wr, r_gk_wr, r_gn_wr, r_gr_wa, r_gl_wa, r_gk_wa, r_gn_wa, aa_e, as_e, al_e, u_lt, u_le, u_gt, u_ge, u_lt0, u_le0, u_gt0, u_ge0, Classical.not_not, not_true_eq_false, not_false_eq_true, oi_n, oi_m, n_dec, nI_add, pk_mul, n_sub, n_eq, n_le, n_lt, n_eq0, n_lt0, n_le0, n_0lt, n_0le, n_eqm, m_eqn, n_ltm, n_and, n_or, n_xor, n_shl, n_shr, tb1, tb0, bP_1, bP_0, bP_n0, ix_n, inb_n, u_eq, u_eqm, G.1]
          rw [ey]
          exact ih (n - 1) (by omega) (k + 1) (by omega)
        have no : ¬ (s 152 k = m ∧ s 155 k = o ∧ s 111 (s 151 k) = 0) → btN s m o k = btN s m o (k + 1) := fun z => by rw [e2, nif_f z, Nat.or_zero]
        refine hP.1 _ _ s_Gf_between_14 _ _ _ _ _ ?_
        simp (maxSteps := 1000000) (disch := omega) only [g_Gf_between_14, slk, List.map_cons, List.map_nil, List.sum_cons, List.sum_nil, vc_i, vc_r, vc_n, vc_l, vc_o, Nat.add_zero, kO_e, kA_e, hdO_a, eq_self, blk, stp, lg, ls0, lk, ls1, ls2, kI_i, kL_l, kR_r, kR_n, kR_o, s1I_i, s2I_i, s1L_l, s2L_l, s1R_r, s1R_n, s1R_o, s1A_a, cmpc, popn, swt, rf_s, rf_n, cat_i, cat_r, cat_n, cat_l, true_and, and_true, List.length_cons, List.length_nil, Nat.zero_add, Int.reduceToNat, Nat.reduceAdd, Nat.reduceDiv, Nat.reduceMod, Nat.reduceMul, Nat.reduceSub, Nat.reduceLeDiff, Nat.reduceLT, Nat.reduceEqDiff, ↓reduceIte, r_gr_wi, r_gl_wi, r_gk_wi, r_gn_wi, r_wi_eq, r_wi_ne, r_wi_nj, r_gi_wr, r_gl_wr, r_gk_wr, r_gn_wr, r_gr_wa, r_gl_wa, r_gk_wa, r_gn_wa, aa_e, as_e, al_e, u_lt, u_le, u_gt, u_ge, u_lt0, u_le0, u_gt0, u_ge0, Classical.not_not, not_true_eq_false, not_false_eq_true, oi_n, oi_m, n_dec, nI_add, pk_mul, n_sub, n_eq, n_le, n_lt, n_eq0, n_lt0, n_le0, n_0lt, n_0le, n_eqm, m_eqn, n_ltm, n_and, n_or, n_xor, n_shl, n_shr, tb1, tb0, bP_1, bP_0, bP_n0, ix_n, inb_n, u_eq, u_eqm, k61 L, f61_2 L, k63 L, G.1, g.1, g.2.1, g.2.2.2.1]
        refine ⟨fun q => nx _ (no (fun z => q z.1)), fun q => ?_⟩
        refine hP.1 _ _ s_Gf_between_25 _ _ _ _ _ ?_
        simp (maxSteps := 1000000) (disch := omega) only [g_Gf_between_25, slk, List.map_cons, List.map_nil, List.sum_cons, List.sum_nil, vc_i, vc_r, vc_n, vc_l, vc_o, Nat.add_zero, kO_e, kA_e, hdO_a, eq_self, blk, stp, lg, ls0, lk, ls1, ls2, kI_i, kL_l, kR_r, kR_n, kR_o, s1I_i, s2I_i, s1L_l, s2L_l, s1R_r, s1R_n, s1R_o, s1A_a, cmpc, popn, swt, rf_s, rf_n, cat_i, cat_r, cat_n, cat_l, true_and, and_true, List.length_cons, List.length_nil, Nat.zero_add, Int.reduceToNat, Nat.reduceAdd, Nat.reduceDiv, Nat.reduceMod, Nat.reduceMul, Nat.reduceSub, Nat.reduceLeDiff, Nat.reduceLT, Nat.reduceEqDiff, ↓reduceIte, r_gr_wi, r_gl_wi, r_gk_wi, r_gn_wi, r_wi_eq, r_wi_ne, r_wi_nj, r_gi_wr, r_gl_wr, r_gk_wr, r_gn_wr, r_gr_wa, r_gl_wa, r_gk_wa, r_gn_wa, aa_e, as_e, al_e, u_lt, u_le, u_gt, u_ge, u_lt0, u_le0, u_gt0, u_ge0, Classical.not_not, not_true_eq_false, not_false_eq_true, oi_n, oi_m, n_dec, nI_add, pk_mul, n_sub, n_eq, n_le, n_lt, n_eq0, n_lt0, n_le0, n_0lt, n_0le, n_eqm, m_eqn, n_ltm, n_and, n_or, n_xor, n_shl, n_shr, tb1, tb0, bP_1, bP_0, bP_n0, ix_n, inb_n, u_eq, u_eqm, k61 L, f61_4 L, k65 L, G.1, g.1, g.2.1, g.2.2.2.1]
        refine ⟨fun q2 => nx _ (no (fun z => q2 z.2.1)), fun q2 => ?_⟩
        refine hP.1 _ _ s_Gf_between_36 _ _ _ _ _ ?_
        simp (maxSteps := 1000000) (disch := omega) only [g_Gf_between_36, slk, List.map_cons, List.map_nil, List.sum_cons, List.sum_nil, vc_i, vc_r, vc_n, vc_l, vc_o, Nat.add_zero, kO_e, kA_e, hdO_a, eq_self, blk, stp, lg, ls0, lk, ls1, ls2, kI_i, kL_l, kR_r, kR_n, kR_o, s1I_i, s2I_i, s1L_l, s2L_l, s1R_r, s1R_n, s1R_o, s1A_a, cmpc, popn, swt, rf_s, rf_n, cat_i, cat_r, cat_n, cat_l, true_and, and_true, List.length_cons, List.length_nil, Nat.zero_add, Int.reduceToNat, Nat.reduceAdd, Nat.reduceDiv, Nat.reduceMod, Nat.reduceMul, Nat.reduceSub, Nat.reduceLeDiff, Nat.reduceLT, Nat.reduceEqDiff, ↓reduceIte, r_gr_wi, r_gl_wi, r_gk_wi, r_gn_wi, r_wi_eq, r_wi_ne, r_wi_nj, r_gi_wr, r_gl_wr, r_gk_wr, r_gn_wr, r_gr_wa, r_gl_wa, r_gk_wa, r_gn_wa, aa_e, as_e, al_e, u_lt, u_le, u_gt, u_ge, u_lt0, u_le0, u_gt0, u_ge0, Classical.not_not, not_true_eq_false, not_false_eq_true, oi_n, oi_m, n_dec, nI_add, pk_mul, n_sub, n_eq, n_le, n_lt, n_eq0, n_lt0, n_le0, n_0lt, n_0le, n_eqm, m_eqn, n_ltm, n_and, n_or, n_xor, n_shl, n_shr, tb1, tb0, bP_1, bP_0, bP_n0, ix_n, inb_n, u_eq, u_eqm, k61 L, f61_0 L, k21 L, f61_1 L, k62 L, G.1, g.1, g.2.1, g.2.2.2.1]
        refine wc (c_Ci_sits L C.1.2.2 (b := thoN s) (by omega) (e := s 151 k) (by omega)) ⟨by omega, by omega⟩ ?_
        simp (maxSteps := 1000000) (disch := omega) only [slk, List.map_cons, List.map_nil, List.sum_cons, List.sum_nil, vc_i, vc_r, vc_n, vc_l, vc_o, Nat.add_zero, kO_e, kA_e, hdO_a, eq_self, blk, stp, lg, ls0, lk, ls1, ls2, kI_i, kL_l, kR_r, kR_n, kR_o, s1I_i, s2I_i, s1L_l, s2L_l, s1R_r, s1R_n, s1R_o, s1A_a, cmpc, popn, swt, rf_s, rf_n, cat_i, cat_r, cat_n, cat_l, true_and, and_true, List.length_cons, List.length_nil, Nat.zero_add, Int.reduceToNat, Nat.reduceAdd, Nat.reduceDiv, Nat.reduceMod, Nat.reduceMul, Nat.reduceSub, Nat.reduceLeDiff, Nat.reduceLT, Nat.reduceEqDiff, ↓reduceIte, r_gr_wi, r_gl_wi, r_gk_wi, r_gn_wi, r_wi_eq, r_wi_ne, r_wi_nj, r_gi_wr, r_gl_wr, r_gk_wr, r_gn_wr, r_gr_wa, r_gl_wa, r_gk_wa, r_gn_wa, aa_e, as_e, al_e, u_lt, u_le, u_gt, u_ge, u_lt0, u_le0, u_gt0, u_ge0, Classical.not_not, not_true_eq_false, not_false_eq_true, oi_n, oi_m, n_dec, nI_add, pk_mul, n_sub, n_eq, n_le, n_lt, n_eq0, n_lt0, n_le0, n_0lt, n_0le, n_eqm, m_eqn, n_ltm, n_and, n_or, n_xor, n_shl, n_shr, tb1, tb0, bP_1, bP_0, bP_n0, ix_n, inb_n, u_eq, u_eqm, k61 L, f61_0 L, k21 L, f61_1 L, k62 L, G.1, g.1, g.2.1, g.2.2.2.1]
        have th := tho_bit W (s 151 k)
        refine ⟨fun q3 => nx _ (no (fun z => q3 (th.mpr ⟨rk.1, z.2.2⟩))), fun q3 => ?_⟩
        refine hP.1 _ _ s_Gf_between_53 _ _ _ _ _ ?_
        simp (maxSteps := 1000000) (disch := omega) only [g_Gf_between_53, slk, List.map_cons, List.map_nil, List.sum_cons, List.sum_nil, vc_i, vc_r, vc_n, vc_l, vc_o, Nat.add_zero, kO_e, kA_e, hdO_a, eq_self, blk, stp, lg, ls0, lk, ls1, ls2, kI_i, kL_l, kR_r, kR_n, kR_o, s1I_i, s2I_i, s1L_l, s2L_l, s1R_r, s1R_n, s1R_o, s1A_a, cmpc, popn, swt, rf_s, rf_n, cat_i, cat_r, cat_n, cat_l, true_and, and_true, List.length_cons, List.length_nil, Nat.zero_add, Int.reduceToNat, Nat.reduceAdd, Nat.reduceDiv, Nat.reduceMod, Nat.reduceMul, Nat.reduceSub, Nat.reduceLeDiff, Nat.reduceLT, Nat.reduceEqDiff, ↓reduceIte, r_gr_wi, r_gl_wi, r_gk_wi, r_gn_wi, r_wi_eq, r_wi_ne, r_wi_nj, r_gi_wr, r_gl_wr, r_gk_wr, r_gn_wr, r_gr_wa, r_gl_wa, r_gk_wa, r_gn_wa, aa_e, as_e, al_e, u_lt, u_le, u_gt, u_ge, u_lt0, u_le0, u_gt0, u_ge0, Classical.not_not, not_true_eq_false, not_false_eq_true, oi_n, oi_m, n_dec, nI_add, pk_mul, n_sub, n_eq, n_le, n_lt, n_eq0, n_lt0, n_le0, n_0lt, n_0le, n_eqm, m_eqn, n_ltm, n_and, n_or, n_xor, n_shl, n_shr, tb1, tb0, bP_1, bP_0, bP_n0, ix_n, inb_n, u_eq, u_eqm, G.1, g.1, g.2.1, g.2.2.2.1]
        exact nx _ (by rw [e2, nif_t ⟨by omega, by omega, (th.mp (by first | exact q3 | simpa using q3)).2⟩])
  refine hP.1 _ _ s_Gf_between_0 _ _ _ _ _ ?_
  simp (maxSteps := 1000000) (disch := omega) only [g_Gf_between_0, slk, List.map_cons, List.map_nil, List.sum_cons, List.sum_nil, vc_i, vc_r, vc_n, vc_l, vc_o, Nat.add_zero, kO_e, kA_e, hdO_a, eq_self, blk, stp, lg, ls0, lk, ls1, ls2, kI_i, kL_l, kR_r, kR_n, kR_o, s1I_i, s2I_i, s1L_l, s2L_l, s1R_r, s1R_n, s1R_o, s1A_a, cmpc, popn, swt, rf_s, rf_n, cat_i, cat_r, cat_n, cat_l, true_and, and_true, List.length_cons, List.length_nil, Nat.zero_add, Int.reduceToNat, Nat.reduceAdd, Nat.reduceDiv, Nat.reduceMod, Nat.reduceMul, Nat.reduceSub, Nat.reduceLeDiff, Nat.reduceLT, Nat.reduceEqDiff, ↓reduceIte, r_gr_wi, r_gl_wi, r_gk_wi, r_gn_wi, r_wi_eq, r_wi_ne, r_wi_nj, r_gi_wr, r_gl_wr, r_gk_wr, r_gn_wr, r_gr_wa, r_gl_wa, r_gk_wa, r_gn_wa, aa_e, as_e, al_e, u_lt, u_le, u_gt, u_ge, u_lt0, u_le0, u_gt0, u_ge0, Classical.not_not, not_true_eq_false, not_false_eq_true, oi_n, oi_m, n_dec, nI_add, pk_mul, n_sub, n_eq, n_le, n_lt, n_eq0, n_lt0, n_le0, n_0lt, n_0le, n_eqm, m_eqn, n_ltm, n_and, n_or, n_xor, n_shl, n_shr, tb1, tb0, bP_1, bP_0, bP_n0, ix_n, inb_n, u_eq, u_eqm, G.1]
  exact loop _ 0 (Nat.zero_add _)
def GAT (h : AH) (F1 F2 : List Nat) : Prop := (gi h 61 8 = nI F1.length ∧ gi h 61 9 = nI F2.length) ∧ (∀ j, j < F1.length → gi h 67 j = nI (F1.getD j 0)) ∧ ∀ j, j < F2.length → gi h 68 j = nI (F2.getD j 0)
def XG : Nat → Prop := fun a => a = 61 ∨ a = 67 ∨ a = 68
def PGa (h : AH) (F1 F2 : List Nat) (r : Option (Option Value)) (h' : AH) : Prop := r = some none ∧ Fp XG h h' ∧ gi h' 61 10 = gi h 61 10 ∧ GAT h' F1 F2
theorem c_Gf_gather (W : RH h s) (g0 : s 107 22 = 0) {h2 : AH} (L : Lay h2) (C : CC h2 s) {m o : Nat} (hm : m < s 107 19) (ho : o < s 107 19) (M : MA h2 b (s 112 m)) (V : MV h2 s m b) (M2 : MA h2 c (s 112 o)) (V2 : MV h2 s o c) : Mz (d + 3) 170 [.ref 61, .ref b, .ref c] h2 0 0 (PGa h2 (fsL s m (1 <<< (2 * s 112 m))) (ssL s o (1 <<< (2 * s 112 o)))) := by
  have b4 := rs_p W hm
  have b5 := sh_1024 b4.2.1
  have c4 := rs_p W ho
  have c5 := sh_1024 c4.2.1
  have bb := ma_b M
  have bc := ma_b M2
  have L0 := L
  refine mz_in (l := [some (.ref 61), some (.ref b), some (.ref c), none, none]) mk_Gf_gather n_Gf_gather rfl l_Gf_gather rfl (Nat.le_of_ble_eq_true rfl) fun P hP => ?_
  have xg : ∀ a, XG a → a < 21 ∨ 33 < a := fun a q => by unfold XG at q; omega
  have loop2 : ∀ n k H (x4 : Option Value), k + n = 1 <<< (2 * s 112 o) → Fp XG h2 H → gi H 61 10 = gi h2 61 10 → GAT H (fsL s m (1 <<< (2 * s 112 m))) (ssL s o k) → P 80 [some (.ref 61), some (.ref b), some (.ref c), some (.int (nI k)), x4] [] H 0 0 := by
    intro n
    induction n using Nat.strongRecOn with
    | _ n ih =>
      intro k H x4 hk F h10 GA
      have L := F.lay L0
      have C1 := F.cc C xg
      have M1 := F.ma M2
      have V1 := F.mv V2 (fun a q => by unfold XG at q; omega)
      have M := M1
      have fl := gaL_len (c1P s m) (slN (s 112 m) (s 113 m)) (1 <<< (2 * s 112 m))
      have sl2 := gaL_len (c2P s o) (slN (s 112 o) (s 113 o)) k
      have e9 : gaL (c2P s o) (slN (s 112 o) (s 113 o)) k = ssL s o k := rfl
      rw [e9] at sl2
      refine hP.1 _ _ s_Gf_gather_80 _ _ _ _ _ ?_
      simp (maxSteps := 1000000) (disch := omega) only [g_Gf_gather_80, slk, List.map_cons, List.map_nil, List.sum_cons, List.sum_nil, vc_i, vc_r, vc_n, vc_l, vc_o, Nat.add_zero, kO_e, kA_e, hdO_a, eq_self, blk, stp, lg, ls0, lk, ls1, ls2, kI_i, kL_l, kR_r, kR_n, kR_o, s1I_i, s2I_i, s1L_l, s2L_l, s1R_r, s1R_n, s1R_o, s1A_a, cmpc, popn, swt, rf_s, rf_n, cat_i, cat_r, cat_n, cat_l, true_and, and_true, List.length_cons, List.length_nil, Nat.zero_add, Int.reduceToNat, Nat.reduceAdd, Nat.reduceDiv, Nat.reduceMod, Nat.reduceMul, Nat.reduceSub, Nat.reduceLeDiff, Nat.reduceLT, Nat.reduceEqDiff, ↓reduceIte, r_gr_wi, r_gl_wi, r_gk_wi, r_gn_wi, r_wi_eq, r_wi_ne, r_wi_nj, r_gi_wr, r_gl_wr, r_gk_wr, r_gn_wr, r_gr_wa, r_gl_wa, r_gk_wa, r_gn_wa, aa_e, as_e, al_e, u_lt, u_le, u_gt, u_ge, u_lt0, u_le0, u_gt0, u_ge0, Classical.not_not, not_true_eq_false, not_false_eq_true, oi_n, oi_m, n_dec, nI_add, pk_mul, n_sub, n_eq, n_le, n_lt, n_eq0, n_lt0, n_le0, n_0lt, n_0le, n_eqm, m_eqn, n_ltm, n_and, n_or, n_xor, n_shl, n_shr, tb1, tb0, bP_1, bP_0, bP_n0, ix_n, inb_n, u_eq, u_eqm, ma_k M, ma_k1 M, ma_k2 M, ma_k3 M, ma_k12 M, ma_k13 M, ma_k14 M, ma_r2 M, ma_r3 M, ma_r4 M, ma_r5 M, ma_r6 M, ma_r7 M]
      refine ⟨fun hc => ?_, fun hc => ?_⟩
      · have e1 : k = 1 <<< (2 * s 112 o) := by omega
        subst e1
        refine hP.1 _ _ s_Gf_gather_146 _ _ _ _ _ ?_
        simp (maxSteps := 1000000) (disch := omega) only [g_Gf_gather_146, slk, List.map_cons, List.map_nil, List.sum_cons, List.sum_nil, vc_i, vc_r, vc_n, vc_l, vc_o, Nat.add_zero, kO_e, kA_e, hdO_a, eq_self, blk, stp, lg, ls0, lk, ls1, ls2, kI_i, kL_l, kR_r, kR_n, kR_o, s1I_i, s2I_i, s1L_l, s2L_l, s1R_r, s1R_n, s1R_o, s1A_a, cmpc, popn, swt, rf_s, rf_n, cat_i, cat_r, cat_n, cat_l, true_and, and_true, List.length_cons, List.length_nil, Nat.zero_add, Int.reduceToNat, Nat.reduceAdd, Nat.reduceDiv, Nat.reduceMod, Nat.reduceMul, Nat.reduceSub, Nat.reduceLeDiff, Nat.reduceLT, Nat.reduceEqDiff, ↓reduceIte, r_gr_wi, r_gl_wi, r_gk_wi, r_gn_wi, r_wi_eq, r_wi_ne, r_wi_nj, r_gi_wr, r_gl_wr, r_gk_wr, r_gn_wr, r_gr_wa, r_gl_wa, r_gk_wa, r_gn_wa, aa_e, as_e, al_e, u_lt, u_le, u_gt, u_ge, u_lt0, u_le0, u_gt0, u_ge0, Classical.not_not, not_true_eq_false, not_false_eq_true, oi_n, oi_m, n_dec, nI_add, pk_mul, n_sub, n_eq, n_le, n_lt, n_eq0, n_lt0, n_le0, n_0lt, n_0le, n_eqm, m_eqn, n_ltm, n_and, n_or, n_xor, n_shl, n_shr, tb1, tb0, bP_1, bP_0, bP_n0, ix_n, inb_n, u_eq, u_eqm, ma_k M, ma_k1 M, ma_k2 M, ma_k3 M, ma_k12 M, ma_k13 M, ma_k14 M, ma_r2 M, ma_r3 M, ma_r4 M, ma_r5 M, ma_r6 M, ma_r7 M]
        rw [r_Gf_gather]
        exact ⟨trivial, rfl, F, h10, GA⟩
      · have hk2 : k < 1 <<< (2 * s 112 o) := by omega
        have sl := V1.2.1 k hk2
        have slb := sl_lt c4.2.1 (s 113 o) k
        have ps := pr_sl (x := k) c4.1 hk2
        have ub := unB_lt W o (slN (s 112 o) (s 113 o) k)
        have ul := and_lt (b := thoN s) ub
        have nx : ∀ H x4, Fp XG h2 H → gi H 61 10 = gi h2 61 10 → GAT H (fsL s m (1 <<< (2 * s 112 m))) (ssL s o (k + 1)) → P 140 [some (.ref 61), some (.ref b), some (.ref c), some (.int (nI k)), x4] [] H 0 0 := by
          intro H x4 F h10 GA
          refine hP.1 _ _ s_Gf_gather_140 _ _ _ _ _ ?_
          simp (maxSteps := 1000000) (disch := omega) only [g_Gf_gather_140, slk, List.map_cons, List.map_nil, List.sum_cons, List.sum_nil, vc_i, vc_r, vc_n, vc_l, vc_o, Nat.add_zero, kO_e, kA_e, hdO_a, eq_self, blk, stp, lg, ls0, lk, ls1, ls2, kI_i, kL_l, kR_r, kR_n, kR_o, s1I_i, s2I_i, s1L_l, s2L_l, s1R_r, s1R_n, s1R_o, s1A_a, cmpc, popn, swt, rf_s, rf_n, cat_i, cat_r, cat_n, cat_l, true_and, and_true, List.length_cons, List.length_nil, Nat.zero_add, Int.reduceToNat, Nat.reduceAdd, Nat.reduceDiv, Nat.reduceMod, Nat.reduceMul, Nat.reduceSub, Nat.reduceLeDiff, Nat.reduceLT, Nat.reduceEqDiff, ↓reduceIte, r_gr_wi, r_gl_wi, r_gk_wi, r_gn_wi, r_wi_eq, r_wi_ne, r_wi_nj, r_gi_wr, r_gl_wr, r_gk_wr, r_gn_wr, r_gr_wa, r_gl_wa, r_gk_wa, r_gn_wa, aa_e, as_e, al_e, u_lt, u_le, u_gt, u_ge, u_lt0, u_le0, u_gt0, u_ge0, Classical.not_not, not_true_eq_false, not_false_eq_true, oi_n, oi_m, n_dec, nI_add, pk_mul, n_sub, n_eq, n_le, n_lt, n_eq0, n_lt0, n_le0, n_0lt, n_0le, n_eqm, m_eqn, n_ltm, n_and, n_or, n_xor, n_shl, n_shr, tb1, tb0, bP_1, bP_0, bP_n0, ix_n, inb_n, u_eq, u_eqm, ma_k M, ma_k1 M, ma_k2 M, ma_k3 M, ma_k12 M, ma_k13 M, ma_k14 M, ma_r2 M, ma_r3 M, ma_r4 M, ma_r5 M, ma_r6 M, ma_r7 M]
          exact ih (n - 1) (by omega) (k + 1) H _ (by omega) F h10 GA
        have no : ¬ c2P s o k → ssL s o (k + 1) = ssL s o k := fun z => ifO_f z
        have ye : c2P s o k → ssL s o (k + 1) = ssL s o k ++ [slN (s 112 o) (s 113 o) k] := fun z => ifO_t z
        refine hP.1 _ _ s_Gf_gather_89 _ _ _ _ _ ?_
        simp (maxSteps := 1000000) (disch := omega) only [g_Gf_gather_89, slk, List.map_cons, List.map_nil, List.sum_cons, List.sum_nil, vc_i, vc_r, vc_n, vc_l, vc_o, Nat.add_zero, kO_e, kA_e, hdO_a, eq_self, blk, stp, lg, ls0, lk, ls1, ls2, kI_i, kL_l, kR_r, kR_n, kR_o, s1I_i, s2I_i, s1L_l, s2L_l, s1R_r, s1R_n, s1R_o, s1A_a, cmpc, popn, swt, rf_s, rf_n, cat_i, cat_r, cat_n, cat_l, true_and, and_true, List.length_cons, List.length_nil, Nat.zero_add, Int.reduceToNat, Nat.reduceAdd, Nat.reduceDiv, Nat.reduceMod, Nat.reduceMul, Nat.reduceSub, Nat.reduceLeDiff, Nat.reduceLT, Nat.reduceEqDiff, ↓reduceIte, r_gr_wi, r_gl_wi, r_gk_wi, r_gn_wi, r_wi_eq, r_wi_ne, r_wi_nj, r_gi_wr, r_gl_wr, r_gk_wr, r_gn_wr, r_gr_wa, r_gl_wa, r_gk_wa, r_gn_wa, aa_e, as_e, al_e, u_lt, u_le, u_gt, u_ge, u_lt0, u_le0, u_gt0, u_ge0, Classical.not_not, not_true_eq_false, not_false_eq_true, oi_n, oi_m, n_dec, nI_add, pk_mul, n_sub, n_eq, n_le, n_lt, n_eq0, n_lt0, n_le0, n_0lt, n_0le, n_eqm, m_eqn, n_ltm, n_and, n_or, n_xor, n_shl, n_shr, tb1, tb0, bP_1, bP_0, bP_n0, ix_n, inb_n, u_eq, u_eqm, ma_k M, ma_k1 M, ma_k2 M, ma_k3 M, ma_k12 M, ma_k13 M, ma_k14 M, ma_r2 M, ma_r3 M, ma_r4 M, ma_r5 M, ma_r6 M, ma_r7 M, sl, C1.1.2.2]
        refine ⟨fun q => nx H _ F h10 (by rw [no (fun z => ps.mp z.1 q)]; exact GA), fun q => ?_⟩
        have pr := ps.mpr q
        have iab := un_ab W g0 ho pr
        refine hP.1 _ _ s_Gf_gather_102 _ _ _ _ _ ?_
        simp (maxSteps := 1000000) (disch := omega) only [g_Gf_gather_102, slk, List.map_cons, List.map_nil, List.sum_cons, List.sum_nil, vc_i, vc_r, vc_n, vc_l, vc_o, Nat.add_zero, kO_e, kA_e, hdO_a, eq_self, blk, stp, lg, ls0, lk, ls1, ls2, kI_i, kL_l, kR_r, kR_n, kR_o, s1I_i, s2I_i, s1L_l, s2L_l, s1R_r, s1R_n, s1R_o, s1A_a, cmpc, popn, swt, rf_s, rf_n, cat_i, cat_r, cat_n, cat_l, true_and, and_true, List.length_cons, List.length_nil, Nat.zero_add, Int.reduceToNat, Nat.reduceAdd, Nat.reduceDiv, Nat.reduceMod, Nat.reduceMul, Nat.reduceSub, Nat.reduceLeDiff, Nat.reduceLT, Nat.reduceEqDiff, ↓reduceIte, r_gr_wi, r_gl_wi, r_gk_wi, r_gn_wi, r_wi_eq, r_wi_ne, r_wi_nj, r_gi_wr, r_gl_wr, r_gk_wr, r_gn_wr, r_gr_wa, r_gl_wa, r_gk_wa, r_gn_wa, aa_e, as_e, al_e, u_lt, u_le, u_gt, u_ge, u_lt0, u_le0, u_gt0, u_ge0, Classical.not_not, not_true_eq_false, not_false_eq_true, oi_n, oi_m, n_dec, nI_add, pk_mul, n_sub, n_eq, n_le, n_lt, n_eq0, n_lt0, n_le0, n_0lt, n_0le, n_eqm, m_eqn, n_ltm, n_and, n_or, n_xor, n_shl, n_shr, tb1, tb0, bP_1, bP_0, bP_n0, ix_n, inb_n, u_eq, u_eqm, k61 L, f61_0 L, k21 L, ma_k M, ma_k1 M, ma_k2 M, ma_k3 M, ma_k12 M, ma_k13 M, ma_k14 M, ma_r2 M, ma_r3 M, ma_r4 M, ma_r5 M, ma_r6 M, ma_r7 M, sl, C1.1.2.2]
        refine wc (c_Ma_unable W M1 V1 slb) ⟨by omega, by omega⟩ ?_
        simp (maxSteps := 1000000) (disch := omega) only [slk, List.map_cons, List.map_nil, List.sum_cons, List.sum_nil, vc_i, vc_r, vc_n, vc_l, vc_o, Nat.add_zero, kO_e, kA_e, hdO_a, eq_self, blk, stp, lg, ls0, lk, ls1, ls2, kI_i, kL_l, kR_r, kR_n, kR_o, s1I_i, s2I_i, s1L_l, s2L_l, s1R_r, s1R_n, s1R_o, s1A_a, cmpc, popn, swt, rf_s, rf_n, cat_i, cat_r, cat_n, cat_l, true_and, and_true, List.length_cons, List.length_nil, Nat.zero_add, Int.reduceToNat, Nat.reduceAdd, Nat.reduceDiv, Nat.reduceMod, Nat.reduceMul, Nat.reduceSub, Nat.reduceLeDiff, Nat.reduceLT, Nat.reduceEqDiff, ↓reduceIte, r_gr_wi, r_gl_wi, r_gk_wi, r_gn_wi, r_wi_eq, r_wi_ne, r_wi_nj, r_gi_wr, r_gl_wr, r_gk_wr, r_gn_wr, r_gr_wa, r_gl_wa, r_gk_wa, r_gn_wa, aa_e, as_e, al_e, u_lt, u_le, u_gt, u_ge, u_lt0, u_le0, u_gt0, u_ge0, Classical.not_not, not_true_eq_false, not_false_eq_true, oi_n, oi_m, n_dec, nI_add, pk_mul, n_sub, n_eq, n_le, n_lt, n_eq0, n_lt0, n_le0, n_0lt, n_0le, n_eqm, m_eqn, n_ltm, n_and, n_or, n_xor, n_shl, n_shr, tb1, tb0, bP_1, bP_0, bP_n0, ix_n, inb_n, u_eq, u_eqm, k61 L, f61_0 L, k21 L, ma_k M, ma_k1 M, ma_k2 M, ma_k3 M, ma_k12 M, ma_k13 M, ma_k14 M, ma_r2 M, ma_r3 M, ma_r4 M, ma_r5 M, ma_r6 M, ma_r7 M, sl, C1.1.2.2]
        refine ⟨fun q2 => nx H _ F h10 (by rw [no (fun z => q2 (iab.mpr z.2))]; exact GA), fun q2 => ?_⟩
        have y := ye ⟨pr, iab.mp (by first | exact q2 | exact Classical.not_not.mp q2)⟩
        refine hP.1 _ _ s_Gf_gather_119 _ _ _ _ _ ?_
        simp (maxSteps := 1000000) (disch := omega) only [g_Gf_gather_119, slk, List.map_cons, List.map_nil, List.sum_cons, List.sum_nil, vc_i, vc_r, vc_n, vc_l, vc_o, Nat.add_zero, kO_e, kA_e, hdO_a, eq_self, blk, stp, lg, ls0, lk, ls1, ls2, kI_i, kL_l, kR_r, kR_n, kR_o, s1I_i, s2I_i, s1L_l, s2L_l, s1R_r, s1R_n, s1R_o, s1A_a, cmpc, popn, swt, rf_s, rf_n, cat_i, cat_r, cat_n, cat_l, true_and, and_true, List.length_cons, List.length_nil, Nat.zero_add, Int.reduceToNat, Nat.reduceAdd, Nat.reduceDiv, Nat.reduceMod, Nat.reduceMul, Nat.reduceSub, Nat.reduceLeDiff, Nat.reduceLT, Nat.reduceEqDiff, ↓reduceIte, r_gr_wi, r_gl_wi, r_gk_wi, r_gn_wi, r_wi_eq, r_wi_ne, r_wi_nj, r_gi_wr, r_gl_wr, r_gk_wr, r_gn_wr, r_gr_wa, r_gl_wa, r_gk_wa, r_gn_wa, aa_e, as_e, al_e, u_lt, u_le, u_gt, u_ge, u_lt0, u_le0, u_gt0, u_ge0, Classical.not_not, not_true_eq_false, not_false_eq_true, oi_n, oi_m, n_dec, nI_add, pk_mul, n_sub, n_eq, n_le, n_lt, n_eq0, n_lt0, n_le0, n_0lt, n_0le, n_eqm, m_eqn, n_ltm, n_and, n_or, n_xor, n_shl, n_shr, tb1, tb0, bP_1, bP_0, bP_n0, ix_n, inb_n, u_eq, u_eqm, k61 L, f61_7 L, k68 L, GA.1.2]
        refine nx _ _ ((F.wi (Or.inr (Or.inr rfl)) _ _).wi (Or.inl rfl) _ _) ?_ ?_
        · simp (disch := omega) only [r_wi_ne, r_wi_nj]
          exact h10
        · rw [y]
          refine ⟨⟨?_, ?_⟩, fun j hj => ?_, fun j hj => ?_⟩
          · simp (disch := omega) only [r_wi_ne, r_wi_nj]
            exact GA.1.1
          · rw [r_wi_eq, List.length_append]
            rfl
          · simp (disch := omega) only [r_wi_ne]
            exact GA.2.1 j hj
          · rw [List.length_append] at hj
            have hj2 : j < (ssL s o k).length + 1 := hj
            rw [getD_ap, r_wi_ne _ _ _ _ (by omega)]
            by_cases e : j = (ssL s o k).length
            · subst e
              rw [r_wi_eq, if_neg (Nat.lt_irrefl _), if_pos rfl]
            · rw [r_wi_nj _ _ _ e, if_pos (by omega)]
              exact GA.2.2 j (by omega)
  have loop1 : ∀ n k H (x4 : Option Value), k + n = 1 <<< (2 * s 112 m) → Fp XG h2 H → gi H 61 10 = gi h2 61 10 → gi H 61 8 = nI (fsL s m k).length → (∀ j, j < (fsL s m k).length → gi H 67 j = nI ((fsL s m k).getD j 0)) → P 7 [some (.ref 61), some (.ref b), some (.ref c), some (.int (nI k)), x4] [] H 0 0 := by
    intro n
    induction n using Nat.strongRecOn with
    | _ n ih =>
      intro k H x4 hk F h10 h8 hA
      have L := F.lay L0
      have C1 := F.cc C xg
      have M1 := F.ma M
      have V1 := F.mv V (fun a q => by unfold XG at q; omega)
      have M := M1
      have fl := gaL_len (c1P s m) (slN (s 112 m) (s 113 m)) k
      have e9 : gaL (c1P s m) (slN (s 112 m) (s 113 m)) k = fsL s m k := rfl
      rw [e9] at fl
      refine hP.1 _ _ s_Gf_gather_7 _ _ _ _ _ ?_
      simp (maxSteps := 1000000) (disch := omega) only [g_Gf_gather_7, slk, List.map_cons, List.map_nil, List.sum_cons, List.sum_nil, vc_i, vc_r, vc_n, vc_l, vc_o, Nat.add_zero, kO_e, kA_e, hdO_a, eq_self, blk, stp, lg, ls0, lk, ls1, ls2, kI_i, kL_l, kR_r, kR_n, kR_o, s1I_i, s2I_i, s1L_l, s2L_l, s1R_r, s1R_n, s1R_o, s1A_a, cmpc, popn, swt, rf_s, rf_n, cat_i, cat_r, cat_n, cat_l, true_and, and_true, List.length_cons, List.length_nil, Nat.zero_add, Int.reduceToNat, Nat.reduceAdd, Nat.reduceDiv, Nat.reduceMod, Nat.reduceMul, Nat.reduceSub, Nat.reduceLeDiff, Nat.reduceLT, Nat.reduceEqDiff, ↓reduceIte, r_gr_wi, r_gl_wi, r_gk_wi, r_gn_wi, r_wi_eq, r_wi_ne, r_wi_nj, r_gi_wr, r_gl_wr, r_gk_wr, r_gn_wr, r_gr_wa, r_gl_wa, r_gk_wa, r_gn_wa, aa_e, as_e, al_e, u_lt, u_le, u_gt, u_ge, u_lt0, u_le0, u_gt0, u_ge0, Classical.not_not, not_true_eq_false, not_false_eq_true, oi_n, oi_m, n_dec, nI_add, pk_mul, n_sub, n_eq, n_le, n_lt, n_eq0, n_lt0, n_le0, n_0lt, n_0le, n_eqm, m_eqn, n_ltm, n_and, n_or, n_xor, n_shl, n_shr, tb1, tb0, bP_1, bP_0, bP_n0, ix_n, inb_n, u_eq, u_eqm, ma_k M, ma_k1 M, ma_k2 M, ma_k3 M, ma_k12 M, ma_k13 M, ma_k14 M, ma_r2 M, ma_r3 M, ma_r4 M, ma_r5 M, ma_r6 M, ma_r7 M]
      refine ⟨fun hc => ?_, fun hc => ?_⟩
      · have e1 : k = 1 <<< (2 * s 112 m) := by omega
        subst e1
        refine hP.1 _ _ s_Gf_gather_73 _ _ _ _ _ ?_
        simp (maxSteps := 1000000) (disch := omega) only [g_Gf_gather_73, slk, List.map_cons, List.map_nil, List.sum_cons, List.sum_nil, vc_i, vc_r, vc_n, vc_l, vc_o, Nat.add_zero, kO_e, kA_e, hdO_a, eq_self, blk, stp, lg, ls0, lk, ls1, ls2, kI_i, kL_l, kR_r, kR_n, kR_o, s1I_i, s2I_i, s1L_l, s2L_l, s1R_r, s1R_n, s1R_o, s1A_a, cmpc, popn, swt, rf_s, rf_n, cat_i, cat_r, cat_n, cat_l, true_and, and_true, List.length_cons, List.length_nil, Nat.zero_add, Int.reduceToNat, Nat.reduceAdd, Nat.reduceDiv, Nat.reduceMod, Nat.reduceMul, Nat.reduceSub, Nat.reduceLeDiff, Nat.reduceLT, Nat.reduceEqDiff, ↓reduceIte, r_gr_wi, r_gl_wi, r_gk_wi, r_gn_wi, r_wi_eq, r_wi_ne, r_wi_nj, r_gi_wr, r_gl_wr, r_gk_wr, r_gn_wr, r_gr_wa, r_gl_wa, r_gk_wa, r_gn_wa, aa_e, as_e, al_e, u_lt, u_le, u_gt, u_ge, u_lt0, u_le0, u_gt0, u_ge0, Classical.not_not, not_true_eq_false, not_false_eq_true, oi_n, oi_m, n_dec, nI_add, pk_mul, n_sub, n_eq, n_le, n_lt, n_eq0, n_lt0, n_le0, n_0lt, n_0le, n_eqm, m_eqn, n_ltm, n_and, n_or, n_xor, n_shl, n_shr, tb1, tb0, bP_1, bP_0, bP_n0, ix_n, inb_n, u_eq, u_eqm, k61 L, ma_k M, ma_k1 M, ma_k2 M, ma_k3 M, ma_k12 M, ma_k13 M, ma_k14 M, ma_r2 M, ma_r3 M, ma_r4 M, ma_r5 M, ma_r6 M, ma_r7 M]
        refine loop2 _ 0 _ _ (Nat.zero_add _) (F.wi (Or.inl rfl) _ _) ?_ ⟨⟨?_, ?_⟩, fun j hj => ?_, fun j hj => absurd hj (Nat.not_lt_zero _)⟩
        · simp (disch := omega) only [r_wi_nj]
          exact h10
        · simp (disch := omega) only [r_wi_nj]
          exact h8
        · rw [r_wi_eq]
          rfl
        · simp (disch := omega) only [r_wi_ne]
          exact hA j hj
      · have hk2 : k < 1 <<< (2 * s 112 m) := by omega
        have sl := V1.2.1 k hk2
        have slb := sl_lt b4.2.1 (s 113 m) k
        have ps := pr_sl (x := k) b4.1 hk2
        have cb := clB_lt W m (slN (s 112 m) (s 113 m) k) (Nat.le_refl _)
        have ul := and_lt (b := thoN s) cb
        have nx : ∀ H x4, Fp XG h2 H → gi H 61 10 = gi h2 61 10 → gi H 61 8 = nI (fsL s m (k + 1)).length → (∀ j, j < (fsL s m (k + 1)).length → gi H 67 j = nI ((fsL s m (k + 1)).getD j 0)) → P 67 [some (.ref 61), some (.ref b), some (.ref c), some (.int (nI k)), x4] [] H 0 0 := by
          intro H x4 F h10 h8 hA
          refine hP.1 _ _ s_Gf_gather_67 _ _ _ _ _ ?_
          simp (maxSteps := 1000000) (disch := omega) only [g_Gf_gather_67, slk, List.map_cons, List.map_nil, List.sum_cons, List.sum_nil, vc_i, vc_r, vc_n, vc_l, vc_o, Nat.add_zero, kO_e, kA_e, hdO_a, eq_self, blk, stp, lg, ls0, lk, ls1, ls2, kI_i, kL_l, kR_r, kR_n, kR_o, s1I_i, s2I_i, s1L_l, s2L_l, s1R_r, s1R_n, s1R_o, s1A_a, cmpc, popn, swt, rf_s, rf_n, cat_i, cat_r, cat_n, cat_l, true_and, and_true, List.length_cons, List.length_nil, Nat.zero_add, Int.reduceToNat, Nat.reduceAdd, Nat.reduceDiv, Nat.reduceMod, Nat.reduceMul, Nat.reduceSub, Nat.reduceLeDiff, Nat.reduceLT, Nat.reduceEqDiff, ↓reduceIte, r_gr_wi, r_gl_wi, r_gk_wi, r_gn_wi, r_wi_eq, r_wi_ne, r_wi_nj, r_gi_wr, r_gl_wr, r_gk_wr, r_gn_wr, r_gr_wa, r_gl_wa, r_gk_wa, r_gn_wa, aa_e, as_e, al_e, u_lt, u_le, u_gt, u_ge, u_lt0, u_le0, u_gt0, u_ge0, Classical.not_not, not_true_eq_false, not_false_eq_true, oi_n, oi_m, n_dec, nI_add, pk_mul, n_sub, n_eq, n_le, n_lt, n_eq0, n_lt0, n_le0, n_0lt, n_0le, n_eqm, m_eqn, n_ltm, n_and, n_or, n_xor, n_shl, n_shr, tb1, tb0, bP_1, bP_0, bP_n0, ix_n, inb_n, u_eq, u_eqm, ma_k M, ma_k1 M, ma_k2 M, ma_k3 M, ma_k12 M, ma_k13 M, ma_k14 M, ma_r2 M, ma_r3 M, ma_r4 M, ma_r5 M, ma_r6 M, ma_r7 M]
          exact ih (n - 1) (by omega) (k + 1) H _ (by omega) F h10 h8 hA
        have no : ¬ c1P s m k → fsL s m (k + 1) = fsL s m k := fun z => ifO_f z
        have ye : c1P s m k → fsL s m (k + 1) = fsL s m k ++ [slN (s 112 m) (s 113 m) k] := fun z => ifO_t z
        refine hP.1 _ _ s_Gf_gather_16 _ _ _ _ _ ?_
        simp (maxSteps := 1000000) (disch := omega) only [g_Gf_gather_16, slk, List.map_cons, List.map_nil, List.sum_cons, List.sum_nil, vc_i, vc_r, vc_n, vc_l, vc_o, Nat.add_zero, kO_e, kA_e, hdO_a, eq_self, blk, stp, lg, ls0, lk, ls1, ls2, kI_i, kL_l, kR_r, kR_n, kR_o, s1I_i, s2I_i, s1L_l, s2L_l, s1R_r, s1R_n, s1R_o, s1A_a, cmpc, popn, swt, rf_s, rf_n, cat_i, cat_r, cat_n, cat_l, true_and, and_true, List.length_cons, List.length_nil, Nat.zero_add, Int.reduceToNat, Nat.reduceAdd, Nat.reduceDiv, Nat.reduceMod, Nat.reduceMul, Nat.reduceSub, Nat.reduceLeDiff, Nat.reduceLT, Nat.reduceEqDiff, ↓reduceIte, r_gr_wi, r_gl_wi, r_gk_wi, r_gn_wi, r_wi_eq, r_wi_ne, r_wi_nj, r_gi_wr, r_gl_wr, r_gk_wr, r_gn_wr, r_gr_wa, r_gl_wa, r_gk_wa, r_gn_wa, aa_e, as_e, al_e, u_lt, u_le, u_gt, u_ge, u_lt0, u_le0, u_gt0, u_ge0, Classical.not_not, not_true_eq_false, not_false_eq_true, oi_n, oi_m, n_dec, nI_add, pk_mul, n_sub, n_eq, n_le, n_lt, n_eq0, n_lt0, n_le0, n_0lt, n_0le, n_eqm, m_eqn, n_ltm, n_and, n_or, n_xor, n_shl, n_shr, tb1, tb0, bP_1, bP_0, bP_n0, ix_n, inb_n, u_eq, u_eqm, ma_k M, ma_k1 M, ma_k2 M, ma_k3 M, ma_k12 M, ma_k13 M, ma_k14 M, ma_r2 M, ma_r3 M, ma_r4 M, ma_r5 M, ma_r6 M, ma_r7 M, sl, C1.1.2.2]
        refine ⟨fun q => nx H _ F h10 (by rw [no (fun z => ps.mp z.1 q)]; exact h8) (by rw [no (fun z => ps.mp z.1 q)]; exact hA), fun q => ?_⟩
        have pr := ps.mpr q
        refine hP.1 _ _ s_Gf_gather_29 _ _ _ _ _ ?_
        simp (maxSteps := 1000000) (disch := omega) only [g_Gf_gather_29, slk, List.map_cons, List.map_nil, List.sum_cons, List.sum_nil, vc_i, vc_r, vc_n, vc_l, vc_o, Nat.add_zero, kO_e, kA_e, hdO_a, eq_self, blk, stp, lg, ls0, lk, ls1, ls2, kI_i, kL_l, kR_r, kR_n, kR_o, s1I_i, s2I_i, s1L_l, s2L_l, s1R_r, s1R_n, s1R_o, s1A_a, cmpc, popn, swt, rf_s, rf_n, cat_i, cat_r, cat_n, cat_l, true_and, and_true, List.length_cons, List.length_nil, Nat.zero_add, Int.reduceToNat, Nat.reduceAdd, Nat.reduceDiv, Nat.reduceMod, Nat.reduceMul, Nat.reduceSub, Nat.reduceLeDiff, Nat.reduceLT, Nat.reduceEqDiff, ↓reduceIte, r_gr_wi, r_gl_wi, r_gk_wi, r_gn_wi, r_wi_eq, r_wi_ne, r_wi_nj, r_gi_wr, r_gl_wr, r_gk_wr, r_gn_wr, r_gr_wa, r_gl_wa, r_gk_wa, r_gn_wa, aa_e, as_e, al_e, u_lt, u_le, u_gt, u_ge, u_lt0, u_le0, u_gt0, u_ge0, Classical.not_not, not_true_eq_false, not_false_eq_true, oi_n, oi_m, n_dec, nI_add, pk_mul, n_sub, n_eq, n_le, n_lt, n_eq0, n_lt0, n_le0, n_0lt, n_0le, n_eqm, m_eqn, n_ltm, n_and, n_or, n_xor, n_shl, n_shr, tb1, tb0, bP_1, bP_0, bP_n0, ix_n, inb_n, u_eq, u_eqm, k61 L, f61_0 L, k21 L, ma_k M, ma_k1 M, ma_k2 M, ma_k3 M, ma_k12 M, ma_k13 M, ma_k14 M, ma_r2 M, ma_r3 M, ma_r4 M, ma_r5 M, ma_r6 M, ma_r7 M, sl, C1.1.2.2]
        refine wc (c_Ma_clashed W M1 V1 slb) ⟨by omega, by omega⟩ ?_
        simp (maxSteps := 1000000) (disch := omega) only [slk, List.map_cons, List.map_nil, List.sum_cons, List.sum_nil, vc_i, vc_r, vc_n, vc_l, vc_o, Nat.add_zero, kO_e, kA_e, hdO_a, eq_self, blk, stp, lg, ls0, lk, ls1, ls2, kI_i, kL_l, kR_r, kR_n, kR_o, s1I_i, s2I_i, s1L_l, s2L_l, s1R_r, s1R_n, s1R_o, s1A_a, cmpc, popn, swt, rf_s, rf_n, cat_i, cat_r, cat_n, cat_l, true_and, and_true, List.length_cons, List.length_nil, Nat.zero_add, Int.reduceToNat, Nat.reduceAdd, Nat.reduceDiv, Nat.reduceMod, Nat.reduceMul, Nat.reduceSub, Nat.reduceLeDiff, Nat.reduceLT, Nat.reduceEqDiff, ↓reduceIte, r_gr_wi, r_gl_wi, r_gk_wi, r_gn_wi, r_wi_eq, r_wi_ne, r_wi_nj, r_gi_wr, r_gl_wr, r_gk_wr, r_gn_wr, r_gr_wa, r_gl_wa, r_gk_wa, r_gn_wa, aa_e, as_e, al_e, u_lt, u_le, u_gt, u_ge, u_lt0, u_le0, u_gt0, u_ge0, Classical.not_not, not_true_eq_false, not_false_eq_true, oi_n, oi_m, n_dec, nI_add, pk_mul, n_sub, n_eq, n_le, n_lt, n_eq0, n_lt0, n_le0, n_0lt, n_0le, n_eqm, m_eqn, n_ltm, n_and, n_or, n_xor, n_shl, n_shr, tb1, tb0, bP_1, bP_0, bP_n0, ix_n, inb_n, u_eq, u_eqm, k61 L, f61_0 L, k21 L, ma_k M, ma_k1 M, ma_k2 M, ma_k3 M, ma_k12 M, ma_k13 M, ma_k14 M, ma_r2 M, ma_r3 M, ma_r4 M, ma_r5 M, ma_r6 M, ma_r7 M, sl, C1.1.2.2]
        refine ⟨fun q2 => nx H _ F h10 (by rw [no (fun z => q2 z.2)]; exact h8) (by rw [no (fun z => q2 z.2)]; exact hA), fun q2 => ?_⟩
        have y := ye ⟨pr, (by first | exact q2 | exact Classical.not_not.mp q2)⟩
        refine hP.1 _ _ s_Gf_gather_46 _ _ _ _ _ ?_
        simp (maxSteps := 1000000) (disch := omega) only [g_Gf_gather_46, slk, List.map_cons, List.map_nil, List.sum_cons, List.sum_nil, vc_i, vc_r, vc_n, vc_l, vc_o, Nat.add_zero, kO_e, kA_e, hdO_a, eq_self, blk, stp, lg, ls0, lk, ls1, ls2, kI_i, kL_l, kR_r, kR_n, kR_o, s1I_i, s2I_i, s1L_l, s2L_l, s1R_r, s1R_n, s1R_o, s1A_a, cmpc, popn, swt, rf_s, rf_n, cat_i, cat_r, cat_n, cat_l, true_and, and_true, List.length_cons, List.length_nil, Nat.zero_add, Int.reduceToNat, Nat.reduceAdd, Nat.reduceDiv, Nat.reduceMod, Nat.reduceMul, Nat.reduceSub, Nat.reduceLeDiff, Nat.reduceLT, Nat.reduceEqDiff, ↓reduceIte, r_gr_wi, r_gl_wi, r_gk_wi, r_gn_wi, r_wi_eq, r_wi_ne, r_wi_nj, r_gi_wr, r_gl_wr, r_gk_wr, r_gn_wr, r_gr_wa, r_gl_wa, r_gk_wa, r_gn_wa, aa_e, as_e, al_e, u_lt, u_le, u_gt, u_ge, u_lt0, u_le0, u_gt0, u_ge0, Classical.not_not, not_true_eq_false, not_false_eq_true, oi_n, oi_m, n_dec, nI_add, pk_mul, n_sub, n_eq, n_le, n_lt, n_eq0, n_lt0, n_le0, n_0lt, n_0le, n_eqm, m_eqn, n_ltm, n_and, n_or, n_xor, n_shl, n_shr, tb1, tb0, bP_1, bP_0, bP_n0, ix_n, inb_n, u_eq, u_eqm, k61 L, f61_6 L, k67 L, h8]
        refine nx _ _ ((F.wi (Or.inr (Or.inl rfl)) _ _).wi (Or.inl rfl) _ _) ?_ ?_ ?_
        · simp (disch := omega) only [r_wi_ne, r_wi_nj]
          exact h10
        · rw [y, r_wi_eq, List.length_append]
          rfl
        · intro j hj
          rw [y, List.length_append] at hj
          have hj2 : j < (fsL s m k).length + 1 := hj
          rw [y, getD_ap, r_wi_ne _ _ _ _ (by omega)]
          by_cases e : j = (fsL s m k).length
          · subst e
            rw [r_wi_eq, if_neg (Nat.lt_irrefl _), if_pos rfl]
          · rw [r_wi_nj _ _ _ e, if_pos (by omega)]
            exact hA j (by omega)
  refine hP.1 _ _ s_Gf_gather_0 _ _ _ _ _ ?_
  simp (maxSteps := 1000000) (disch := omega) only [g_Gf_gather_0, slk, List.map_cons, List.map_nil, List.sum_cons, List.sum_nil, vc_i, vc_r, vc_n, vc_l, vc_o, Nat.add_zero, kO_e, kA_e, hdO_a, eq_self, blk, stp, lg, ls0, lk, ls1, ls2, kI_i, kL_l, kR_r, kR_n, kR_o, s1I_i, s2I_i, s1L_l, s2L_l, s1R_r, s1R_n, s1R_o, s1A_a, cmpc, popn, swt, rf_s, rf_n, cat_i, cat_r, cat_n, cat_l, true_and, and_true, List.length_cons, List.length_nil, Nat.zero_add, Int.reduceToNat, Nat.reduceAdd, Nat.reduceDiv, Nat.reduceMod, Nat.reduceMul, Nat.reduceSub, Nat.reduceLeDiff, Nat.reduceLT, Nat.reduceEqDiff, ↓reduceIte, r_gr_wi, r_gl_wi, r_gk_wi, r_gn_wi, r_wi_eq, r_wi_ne, r_wi_nj, r_gi_wr, r_gl_wr, r_gk_wr, r_gn_wr, r_gr_wa, r_gl_wa, r_gk_wa, r_gn_wa, aa_e, as_e, al_e, u_lt, u_le, u_gt, u_ge, u_lt0, u_le0, u_gt0, u_ge0, Classical.not_not, not_true_eq_false, not_false_eq_true, oi_n, oi_m, n_dec, nI_add, pk_mul, n_sub, n_eq, n_le, n_lt, n_eq0, n_lt0, n_le0, n_0lt, n_0le, n_eqm, m_eqn, n_ltm, n_and, n_or, n_xor, n_shl, n_shr, tb1, tb0, bP_1, bP_0, bP_n0, ix_n, inb_n, u_eq, u_eqm, k61 L]
  refine loop1 _ 0 _ none (Nat.zero_add _) ((Fp.refl XG h2).wi (Or.inl rfl) _ _) ?_ ?_ (fun j hj => absurd hj (Nat.not_lt_zero _))
  · simp (disch := omega) only [r_wi_nj]
  · rw [r_wi_eq]
    rfl
/-- what is asked of the givers' matter -/
noncomputable def askN (s : St) (g n : Nat) : Nat := orN n (fun i => (g >>> i &&& 1) <<< (4 * s 156 i + s 157 i))
theorem askN_bit (s : St) (g n i : Nat) : (askN s g n).testBit i = true ↔ ∃ k, k < n ∧ g.testBit k = true ∧ 4 * s 156 k + s 157 k = i := by
  unfold askN
  rw [orN_bit]
  constructor
  · rintro ⟨j, hj, q⟩
    rw [sh1] at q
    by_cases z : g.testBit j = true
    · rw [if_pos z, bit_one] at q
      exact ⟨j, hj, z, q⟩
    · rw [if_neg z, Nat.zero_shiftLeft, Nat.zero_testBit] at q
      cases q
  · rintro ⟨k, h1, h2, h3⟩
    refine ⟨k, h1, ?_⟩
    rw [sh1, if_pos h2, bit_one]
    exact h3
theorem askN_lt {h : AH} {s : St} (W : RH h s) {g n : Nat} (hn : n ≤ s 107 77) : askN s g n < 2 ^ 20 := by
  rw [lt_pow_bit]
  intro i hi
  cases q : (askN s g n).testBit i with
  | false => rfl
  | true =>
    obtain ⟨k, h1, _, h3⟩ := (askN_bit s g n i).mp q
    have r := rs_gif W (k := k) (by omega)
    have p := rs_p W r.2.2.2.2.1
    omega
theorem c_Gf_isGiven (W : RH h s) {h2 : AH} (L : Lay h2) (G : GFC h2 s) {g : Nat} (hg : g < 256) {F1 F2 : List Nat} (GA : GAT h2 F1 F2) (hF : F2.length ≤ 1024) (hb : ∀ j, F2.getD j 0 < 2 ^ 20) : Mz (d + 1) 171 [.ref 61, .int (nI g)] h2 0 0 (Rt (bP (∃ y ∈ F2, adN (askN s g (s 107 77)) y = 0)) h2) := by
  have b2 := rs_gf W
  have al := fun n hn => askN_lt (g := g) (n := n) W hn
  refine mz_in (l := [some (.ref 61), some (.int (nI g)), none, none]) mk_Gf_isGiven n_Gf_isGiven rfl l_Gf_isGiven rfl (Nat.le_of_ble_eq_true rfl) fun P hP => ?_
  have loop2 : ∀ n k, k + n = F2.length → (∀ j, j < k → ¬ adN (askN s g (s 107 77)) (F2.getD j 0) = 0) → P 35 [some (.ref 61), some (.int (nI g)), some (.int (nI (askN s g (s 107 77)))), some (.int (nI k))] [] h2 0 0 := by
    intro n
    have a0 := al (s 107 77) (Nat.le_refl _)
    induction n using Nat.strongRecOn with
    | _ n ih =>
      intro k hk hI
      refine hP.1 _ _ s_Gf_isGiven_35 _ _ _ _ _ ?_
      simp (maxSteps := 1000000) (disch := omega) only [g_Gf_isGiven_35, slk, List.map_cons, List.map_nil, List.sum_cons, List.sum_nil, vc_i, vc_r, vc_n, vc_l, vc_o, Nat.add_zero, kO_e, kA_e, hdO_a, eq_self, blk, stp, lg, ls0, lk, ls1, ls2, kI_i, kL_l, kR_r, kR_n, kR_o, s1I_i, s2I_i, s1L_l, s2L_l, s1R_r, s1R_n, s1R_o, s1A_a, cmpc, popn, swt, rf_s, rf_n, cat_i, cat_r, cat_n, cat_l, true_and, and_true, List.length_cons, List.length_nil, Nat.zero_add, Int.reduceToNat, Nat.reduceAdd, Nat.reduceDiv, Nat.reduceMod, Nat.reduceMul, Nat.reduceSub, Nat.reduceLeDiff, Nat.reduceLT, Nat.reduceEqDiff, ↓reduceIte, r_gr_wi, r_gl_wi, r_gk_wi, r_gn_wi, r_wi_eq, r_wi_ne, r_wi_nj, r_gi_wr, r_gl_wr, r_gk_wr, r_gn_wr, r_gr_wa, r_gl_wa, r_gk_wa, r_gn_wa, aa_e, as_e, al_e, u_lt, u_le, u_gt, u_ge, u_lt0, u_le0, u_gt0, u_ge0, Classical.not_not, not_true_eq_false, not_false_eq_true, oi_n, oi_m, n_dec, nI_add, pk_mul, n_sub, n_eq, n_le, n_lt, n_eq0, n_lt0, n_le0, n_0lt, n_0le, n_eqm, m_eqn, n_ltm, n_and, n_or, n_xor, n_shl, n_shr, tb1, tb0, bP_1, bP_0, bP_n0, ix_n, inb_n, u_eq, u_eqm, k61 L, GA.1.2]
      refine ⟨fun hc => ?_, fun hc => ?_⟩
      · have e1 : k = F2.length := by omega
        refine hP.1 _ _ s_Gf_isGiven_64 _ _ _ _ _ ?_
        simp (maxSteps := 1000000) (disch := omega) only [g_Gf_isGiven_64, slk, List.map_cons, List.map_nil, List.sum_cons, List.sum_nil, vc_i, vc_r, vc_n, vc_l, vc_o, Nat.add_zero, kO_e, kA_e, hdO_a, eq_self, blk, stp, lg, ls0, lk, ls1, ls2, kI_i, kL_l, kR_r, kR_n, kR_o, s1I_i, s2I_i, s1L_l, s2L_l, s1R_r, s1R_n, s1R_o, s1A_a, cmpc, popn, swt, rf_s, rf_n, cat_i, cat_r, cat_n, cat_l, true_and, and_true, List.length_cons, List.length_nil, Nat.zero_add, Int.reduceToNat, Nat.reduceAdd, Nat.reduceDiv, Nat.reduceMod, Nat.reduceMul, Nat.reduceSub, Nat.reduceLeDiff, Nat.reduceLT, Nat.reduceEqDiff, ↓reduceIte, r_gr_wi, r_gl_wi, r_gk_wi, r_gn_wi, r_wi_eq, r_wi_ne, r_wi_nj, r_gi_wr, r_gl_wr, r_gk_wr, r_gn_wr, r_gr_wa, r_gl_wa, r_gk_wa, r_gn_wa, aa_e, as_e, al_e, u_lt, u_le, u_gt, u_ge, u_lt0, u_le0, u_gt0, u_ge0, Classical.not_not, not_true_eq_false, not_false_eq_true, oi_n, oi_m, n_dec, nI_add, pk_mul, n_sub, n_eq, n_le, n_lt, n_eq0, n_lt0, n_le0, n_0lt, n_0le, n_eqm, m_eqn, n_ltm, n_and, n_or, n_xor, n_shl, n_shr, tb1, tb0, bP_1, bP_0, bP_n0, ix_n, inb_n, u_eq, u_eqm, GA.1.2]
        exact lfF r_Gf_isGiven (fun ⟨y, hy, z⟩ => by
          obtain ⟨j, hj, rfl⟩ := List.mem_iff_getElem.mp hy
          refine hI j (by omega) ?_
          rw [List.getD_eq_getElem?_getD, List.getElem?_eq_getElem hj]
          exact z) rfl
      · have hk2 : k < F2.length := by omega
        have bk := hb k
        have ad := adN_lt (b := F2.getD k 0) a0
        refine hP.1 _ _ s_Gf_isGiven_43 _ _ _ _ _ ?_
        simp (maxSteps := 1000000) (disch := omega) only [g_Gf_isGiven_43, slk, List.map_cons, List.map_nil, List.sum_cons, List.sum_nil, vc_i, vc_r, vc_n, vc_l, vc_o, Nat.add_zero, kO_e, kA_e, hdO_a, eq_self, blk, stp, lg, ls0, lk, ls1, ls2, kI_i, kL_l, kR_r, kR_n, kR_o, s1I_i, s2I_i, s1L_l, s2L_l, s1R_r, s1R_n, s1R_o, s1A_a, cmpc, popn, swt, rf_s, rf_n, cat_i, cat_r, cat_n, cat_l, true_and, and_true, List.length_cons, List.length_nil, Nat.zero_add, Int.reduceToNat, Nat.reduceAdd, Nat.reduceDiv, Nat.reduceMod, Nat.reduceMul, Nat.reduceSub, Nat.reduceLeDiff, Nat.reduceLT, Nat.reduceEqDiff, ↓reduceIte, r_gr_wi, r_gl_wi, r_gk_wi, r_gn_wi, r_wi_eq, r_wi_ne, r_wi_nj, r_gi_wr, r_gl_wr, r_gk_wr, r_gn_wr, r_gr_wa, r_gl_wa, r_gk_wa, r_gn_wa, aa_e, as_e, al_e, u_lt, u_le, u_gt, u_ge, u_lt0, u_le0, u_gt0, u_ge0, Classical.not_not, not_true_eq_false, not_false_eq_true, oi_n, oi_m, n_dec, nI_add, pk_mul, n_sub, n_eq, n_le, n_lt, n_eq0, n_lt0, n_le0, n_0lt, n_0le, n_eqm, m_eqn, n_ltm, n_and, n_or, n_xor, n_shl, n_shr, tb1, tb0, bP_1, bP_0, bP_n0, ix_n, inb_n, u_eq, u_eqm, k61 L, f61_7 L, k68 L, GA.1.2, GA.2.2 k hk2, n_andn]
        refine ⟨fun q => ?_, fun q => ?_⟩
        · refine hP.1 _ _ s_Gf_isGiven_58 _ _ _ _ _ ?_
          simp (maxSteps := 1000000) (disch := omega) only [g_Gf_isGiven_58, slk, List.map_cons, List.map_nil, List.sum_cons, List.sum_nil, vc_i, vc_r, vc_n, vc_l, vc_o, Nat.add_zero, kO_e, kA_e, hdO_a, eq_self, blk, stp, lg, ls0, lk, ls1, ls2, kI_i, kL_l, kR_r, kR_n, kR_o, s1I_i, s2I_i, s1L_l, s2L_l, s1R_r, s1R_n, s1R_o, s1A_a, cmpc, popn, swt, rf_s, rf_n, cat_i, cat_r, cat_n, cat_l, true_and, and_true, List.length_cons, List.length_nil, Nat.zero_add, Int.reduceToNat, Nat.reduceAdd, Nat.reduceDiv, Nat.reduceMod, Nat.reduceMul, Nat.reduceSub, Nat.reduceLeDiff, Nat.reduceLT, Nat.reduceEqDiff, ↓reduceIte, r_gr_wi, r_gl_wi, r_gk_wi, r_gn_wi, r_wi_eq, r_wi_ne, r_wi_nj, r_gi_wr, r_gl_wr, r_gk_wr, r_gn_wr, r_gr_wa, r_gl_wa, r_gk_wa, r_gn_wa, aa_e, as_e, al_e, u_lt, u_le, u_gt, u_ge, u_lt0, u_le0, u_gt0, u_ge0, Classical.not_not, not_true_eq_false, not_false_eq_true, oi_n, oi_m, n_dec, nI_add, pk_mul, n_sub, n_eq, n_le, n_lt, n_eq0, n_lt0, n_le0, n_0lt, n_0le, n_eqm, m_eqn, n_ltm, n_and, n_or, n_xor, n_shl, n_shr, tb1, tb0, bP_1, bP_0, bP_n0, ix_n, inb_n, u_eq, u_eqm, GA.1.2, GA.2.2 k hk2, n_andn]
          refine ih (n - 1) (by omega) (k + 1) (by omega) (fun j hj => ?_)
          by_cases e : j = k
          · rw [e]
            exact q
          · exact hI j (by omega)
        · refine hP.1 _ _ s_Gf_isGiven_56 _ _ _ _ _ ?_
          simp (maxSteps := 1000000) (disch := omega) only [g_Gf_isGiven_56, slk, List.map_cons, List.map_nil, List.sum_cons, List.sum_nil, vc_i, vc_r, vc_n, vc_l, vc_o, Nat.add_zero, kO_e, kA_e, hdO_a, eq_self, blk, stp, lg, ls0, lk, ls1, ls2, kI_i, kL_l, kR_r, kR_n, kR_o, s1I_i, s2I_i, s1L_l, s2L_l, s1R_r, s1R_n, s1R_o, s1A_a, cmpc, popn, swt, rf_s, rf_n, cat_i, cat_r, cat_n, cat_l, true_and, and_true, List.length_cons, List.length_nil, Nat.zero_add, Int.reduceToNat, Nat.reduceAdd, Nat.reduceDiv, Nat.reduceMod, Nat.reduceMul, Nat.reduceSub, Nat.reduceLeDiff, Nat.reduceLT, Nat.reduceEqDiff, ↓reduceIte, r_gr_wi, r_gl_wi, r_gk_wi, r_gn_wi, r_wi_eq, r_wi_ne, r_wi_nj, r_gi_wr, r_gl_wr, r_gk_wr, r_gn_wr, r_gr_wa, r_gl_wa, r_gk_wa, r_gn_wa, aa_e, as_e, al_e, u_lt, u_le, u_gt, u_ge, u_lt0, u_le0, u_gt0, u_ge0, Classical.not_not, not_true_eq_false, not_false_eq_true, oi_n, oi_m, n_dec, nI_add, pk_mul, n_sub, n_eq, n_le, n_lt, n_eq0, n_lt0, n_le0, n_0lt, n_0le, n_eqm, m_eqn, n_ltm, n_and, n_or, n_xor, n_shl, n_shr, tb1, tb0, bP_1, bP_0, bP_n0, ix_n, inb_n, u_eq, u_eqm, GA.1.2, GA.2.2 k hk2, n_andn]
          exact lfT r_Gf_isGiven ⟨F2.getD k 0, by
            rw [List.getD_eq_getElem?_getD, List.getElem?_eq_getElem hk2]
            exact List.getElem_mem hk2, by first | exact q | exact Classical.not_not.mp q⟩ rfl
  have loop1 : ∀ n k, k + n = s 107 77 → P 4 [some (.ref 61), some (.int (nI g)), some (.int (nI (askN s g k))), some (.int (nI k))] [] h2 0 0 := by
    intro n
    induction n using Nat.strongRecOn with
    | _ n ih =>
      intro k hk
      have ak := al k (by omega)
      refine hP.1 _ _ s_Gf_isGiven_4 _ _ _ _ _ ?_
      simp (maxSteps := 1000000) (disch := omega) only [g_Gf_isGiven_4, slk, List.map_cons, List.map_nil, List.sum_cons, List.sum_nil, vc_i, vc_r, vc_n, vc_l, vc_o, Nat.add_zero, kO_e, kA_e, hdO_a, eq_self, blk, stp, lg, ls0, lk, ls1, ls2, kI_i, kL_l, kR_r, kR_n, kR_o, s1I_i, s2I_i, s1L_l, s2L_l, s1R_r, s1R_n, s1R_o, s1A_a, cmpc, popn, swt, rf_s, rf_n, cat_i, cat_r, cat_n, cat_l, true_and, and_true, List.length_cons, List.length_nil, Nat.zero_add, Int.reduceToNat, Nat.reduceAdd, Nat.reduceDiv, Nat.reduceMod, Nat.reduceMul, Nat.reduceSub, Nat.reduceLeDiff, Nat.reduceLT, Nat.reduceEqDiff, ↓reduceIte, r_gr_wi, r_gl_wi, r_gk_wi, r_gn_wi, r_wi_eq, r_wi_ne, r_wi_nj, r_gi_wr, r_gl_wr, r_gk_wr, r_gn_wr, r_gr_wa, r_gl_wa, r_gk_wa, r_gn_wa, aa_e, as_e, al_e, u_lt, u_le, u_gt, u_ge, u_lt0, u_le0, u_gt0, u_ge0, Classical.not_not, not_true_eq_false, not_false_eq_true, oi_n, oi_m, n_dec, nI_add, pk_mul, n_sub, n_eq, n_le, n_lt, n_eq0, n_lt0, n_le0, n_0lt, n_0le, n_eqm, m_eqn, n_ltm, n_and, n_or, n_xor, n_shl, n_shr, tb1, tb0, bP_1, bP_0, bP_n0, ix_n, inb_n, u_eq, u_eqm, k61 L, G.1]
      refine ⟨fun hc => ?_, fun hc => ?_⟩
      · have e1 : k = s 107 77 := by omega
        subst e1
        refine hP.1 _ _ s_Gf_isGiven_33 _ _ _ _ _ ?_
        simp (maxSteps := 1000000) (disch := omega) only [g_Gf_isGiven_33, slk, List.map_cons, List.map_nil, List.sum_cons, List.sum_nil, vc_i, vc_r, vc_n, vc_l, vc_o, Nat.add_zero, kO_e, kA_e, hdO_a, eq_self, blk, stp, lg, ls0, lk, ls1, ls2, kI_i, kL_l, kR_r, kR_n, kR_o, s1I_i, s2I_i, s1L_l, s2L_l, s1R_r, s1R_n, s1R_o, s1A_a, cmpc, popn, swt, rf_s, rf_n, cat_i, cat_r, cat_n, cat_l, true_and, and_true, List.length_cons, List.length_nil, Nat.zero_add, Int.reduceToNat, Nat.reduceAdd, Nat.reduceDiv, Nat.reduceMod, Nat.reduceMul, Nat.reduceSub, Nat.reduceLeDiff, Nat.reduceLT, Nat.reduceEqDiff, ↓reduceIte, r_gr_wi, r_gl_wi, r_gk_wi, r_gn_wi, r_wi_eq, r_wi_ne, r_wi_nj, r_gi_wr, r_gl_wr, r_gk_wr, r_gn_wr, r_gr_wa, r_gl_wa, r_gk_wa, r_gn_wa, aa_e, as_e, al_e, u_lt, u_le, u_gt, u_ge, u_lt0, u_le0, u_gt0, u_ge0, Classical.not_not, not_true_eq_false, not_false_eq_true, oi_n, oi_m, n_dec, nI_add, pk_mul, n_sub, n_eq, n_le, n_lt, n_eq0, n_lt0, n_le0, n_0lt, n_0le, n_eqm, m_eqn, n_ltm, n_and, n_or, n_xor, n_shl, n_shr, tb1, tb0, bP_1, bP_0, bP_n0, ix_n, inb_n, u_eq, u_eqm, G.1]
        exact loop2 _ 0 (Nat.zero_add _) (fun j hj => absurd hj (Nat.not_lt_zero _))
      · have hk2 : k < s 107 77 := by omega
        have gk2 := G.2 k hk2
        have r := rs_gif W hk2
        have p := rs_p W r.2.2.2.2.1
        refine hP.1 _ _ s_Gf_isGiven_12 _ _ _ _ _ ?_
        simp (maxSteps := 1000000) (disch := omega) only [g_Gf_isGiven_12, slk, List.map_cons, List.map_nil, List.sum_cons, List.sum_nil, vc_i, vc_r, vc_n, vc_l, vc_o, Nat.add_zero, kO_e, kA_e, hdO_a, eq_self, blk, stp, lg, ls0, lk, ls1, ls2, kI_i, kL_l, kR_r, kR_n, kR_o, s1I_i, s2I_i, s1L_l, s2L_l, s1R_r, s1R_n, s1R_o, s1A_a, cmpc, popn, swt, rf_s, rf_n, cat_i, cat_r, cat_n, cat_l, true_and, and_true, List.length_cons, List.length_nil, Nat.zero_add, Int.reduceToNat, Nat.reduceAdd, Nat.reduceDiv, Nat.reduceMod, Nat.reduceMul, Nat.reduceSub, Nat.reduceLeDiff, Nat.reduceLT, Nat.reduceEqDiff, ↓reduceIte, r_gr_wi, r_gl_wi, r_gk_wi, r_gn_wi, r_wi_eq, r_wi_ne, r_wi_nj, r_gi_wr, r_gl_wr, r_gk_wr, r_gn_wr, r_gr_wa, r_gl_wa, r_gk_wa, r_gn_wa, aa_e, as_e, al_e, u_lt, u_le, u_gt, u_ge, u_lt0, u_le0, u_gt0, u_ge0, Classical.not_not, not_true_eq_false, not_false_eq_true, oi_n, oi_m, n_dec, nI_add, pk_mul, n_sub, n_eq, n_le, n_lt, n_eq0, n_lt0, n_le0, n_0lt, n_0le, n_eqm, m_eqn, n_ltm, n_and, n_or, n_xor, n_shl, n_shr, tb1, tb0, bP_1, bP_0, bP_n0, ix_n, inb_n, u_eq, u_eqm, k61 L, f61_5 L, k66 L, G.1, gk2.2.2.2.2]
        have e2 : askN s g (k + 1) = askN s g k ||| (g >>> k &&& 1) <<< (4 * s 156 k + s 157 k) := rfl
        rw [← e2]
        exact ih (n - 1) (by omega) (k + 1) (by omega)
  refine hP.1 _ _ s_Gf_isGiven_0 _ _ _ _ _ ?_
  simp (maxSteps := 1000000) (disch := omega) only [g_Gf_isGiven_0, slk, List.map_cons, List.map_nil, List.sum_cons, List.sum_nil, vc_i, vc_r, vc_n, vc_l, vc_o, Nat.add_zero, kO_e, kA_e, hdO_a, eq_self, blk, stp, lg, ls0, lk, ls1, ls2, kI_i, kL_l, kR_r, kR_n, kR_o, s1I_i, s2I_i, s1L_l, s2L_l, s1R_r, s1R_n, s1R_o, s1A_a, cmpc, popn, swt, rf_s, rf_n, cat_i, cat_r, cat_n, cat_l, true_and, and_true, List.length_cons, List.length_nil, Nat.zero_add, Int.reduceToNat, Nat.reduceAdd, Nat.reduceDiv, Nat.reduceMod, Nat.reduceMul, Nat.reduceSub, Nat.reduceLeDiff, Nat.reduceLT, Nat.reduceEqDiff, ↓reduceIte, r_gr_wi, r_gl_wi, r_gk_wi, r_gn_wi, r_wi_eq, r_wi_ne, r_wi_nj, r_gi_wr, r_gl_wr, r_gk_wr, r_gn_wr, r_gr_wa, r_gl_wa, r_gk_wa, r_gn_wa, aa_e, as_e, al_e, u_lt, u_le, u_gt, u_ge, u_lt0, u_le0, u_gt0, u_ge0, Classical.not_not, not_true_eq_false, not_false_eq_true, oi_n, oi_m, n_dec, nI_add, pk_mul, n_sub, n_eq, n_le, n_lt, n_eq0, n_lt0, n_le0, n_0lt, n_0le, n_eqm, m_eqn, n_ltm, n_and, n_or, n_xor, n_shl, n_shr, tb1, tb0, bP_1, bP_0, bP_n0, ix_n, inb_n, u_eq, u_eqm]
  exact loop1 _ 0 (Nat.zero_add _)
/-- what one still cannot bear, with the gifts g -/
noncomputable def ubN (s : St) (m e g : Nat) : Nat → Nat
  | 0 => cnN s m 0 e
  | k + 1 => nif (s 151 k = e ∧ g.testBit k = true) (adN (ubN s m e g k) (1 <<< (4 * s 153 k + s 154 k))) (ubN s m e g k)
theorem ubN_bit (s : St) (m e g i : Nat) : ∀ n, (ubN s m e g n).testBit i = true ↔ (cnN s m 0 e).testBit i = true ∧ ¬ ∃ k, k < n ∧ (s 151 k = e ∧ g.testBit k = true) ∧ 4 * s 153 k + s 154 k = i := by
  intro n
  induction n with
  | zero => exact ⟨fun q => ⟨q, fun ⟨k, z, _⟩ => absurd z (Nat.not_lt_zero _)⟩, fun q => q.1⟩
  | succ n ih =>
    by_cases q : s 151 n = e ∧ g.testBit n = true
    · rw [show ubN s m e g (n + 1) = _ from nif_t q, adN_bit, Bool.and_eq_true, ih, Bool.not_eq_true', ← Bool.not_eq_true, bit_one]
      constructor
      · rintro ⟨⟨a, b2⟩, c2⟩
        refine ⟨a, fun ⟨k, z1, z2, z3⟩ => ?_⟩
        by_cases e2 : k = n
        · subst e2
          exact c2 z3
        · exact b2 ⟨k, by omega, z2, z3⟩
      · rintro ⟨a, b2⟩
        exact ⟨⟨a, fun ⟨k, z1, z2, z3⟩ => b2 ⟨k, by omega, z2, z3⟩⟩, fun z => b2 ⟨n, by omega, q, z⟩⟩
    · rw [show ubN s m e g (n + 1) = _ from nif_f q, ih]
      refine and_congr_right fun _ => not_congr ⟨fun ⟨k, z1, z2, z3⟩ => ⟨k, by omega, z2, z3⟩, fun ⟨k, z1, z2, z3⟩ => ?_⟩
      by_cases e2 : k = n
      · subst e2
        exact absurd z2 q
      · exact ⟨k, by omega, z2, z3⟩
theorem ubN_lt (s : St) (m e g n : Nat) : ubN s m e g n < 2 ^ 20 := by
  rw [lt_pow_bit]
  intro i hi
  cases q : (ubN s m e g n).testBit i with
  | false => rfl
  | true =>
    have := ((ubN_bit s m e g i n).mp q).1
    have l := cn_lt s m 0 e
    rw [lt_pow_bit] at l
    rw [l i hi] at this
    cases this
theorem c_Gf_unborneBy (W : RH h s) {h2 : AH} (L : Lay h2) (G : GFC h2 s) {m e g : Nat} (M : MA h2 b (s 112 m)) (V : MV h2 s m b) (he : e < 8) (hg : g < 256) : Mz (d + 1) 173 [.ref 61, .int (nI e), .ref b, .int (nI g)] h2 0 0 (Rt (nI (ubN s m e g (s 107 77))) h2) := by
  have b1 := rs_e W
  have b2 := rs_gf W
  have v := V.2.2.1 e he
  refine mz_in (l := [some (.ref 61), some (.int (nI e)), some (.ref b), some (.int (nI g)), none, none]) mk_Gf_unborneBy n_Gf_unborneBy rfl l_Gf_unborneBy rfl (Nat.le_of_ble_eq_true rfl) fun P hP => ?_
  have loop : ∀ n k, k + n = s 107 77 → P 11 [some (.ref 61), some (.int (nI e)), some (.ref b), some (.int (nI g)), some (.int (nI (ubN s m e g k))), some (.int (nI k))] [] h2 0 0 := by
    intro n
    induction n using Nat.strongRecOn with
    | _ n ih =>
      intro k hk
      have ul := ubN_lt s m e g k
      refine hP.1 _ _ s_Gf_unborneBy_11 _ _ _ _ _ ?_
      simp (maxSteps := 1000000) (disch := omega) only [g_Gf_unborneBy_11, slk, List.map_cons, List.map_nil, List.sum_cons, List.sum_nil, vc_i, vc_r, vc_n, vc_l, vc_o, Nat.add_zero, kO_e, kA_e, hdO_a, eq_self, blk, stp, lg, ls0, lk, ls1, ls2, kI_i, kL_l, kR_r, kR_n, kR_o, s1I_i, s2I_i, s1L_l, s2L_l, s1R_r, s1R_n, s1R_o, s1A_a, cmpc, popn, swt, rf_s, rf_n, cat_i, cat_r, cat_n, cat_l, true_and, and_true, List.length_cons, List.length_nil, Nat.zero_add, Int.reduceToNat, Nat.reduceAdd, Nat.reduceDiv, Nat.reduceMod, Nat.reduceMul, Nat.reduceSub, Nat.reduceLeDiff, Nat.reduceLT, Nat.reduceEqDiff, ↓reduceIte, r_gr_wi, r_gl_wi, r_gk_wi, r_gn_wi, r_wi_eq, r_wi_ne, r_wi_nj, r_gi_wr, r_gl_wr, r_gk_wr, r_gn_wr, r_gr_wa, r_gl_wa, r_gk_wa, r_gn_wa, aa_e, as_e, al_e, u_lt, u_le, u_gt, u_ge, u_lt0, u_le0, u_gt0, u_ge0, Classical.not_not, not_true_eq_false, not_false_eq_true, oi_n, oi_m, n_dec, nI_add, pk_mul, n_sub, n_eq, n_le, n_lt, n_eq0, n_lt0, n_le0, n_0lt, n_0le, n_eqm, m_eqn, n_ltm, n_and, n_or, n_xor, n_shl, n_shr, tb1, tb0, bP_1, bP_0, bP_n0, ix_n, inb_n, u_eq, u_eqm, k61 L, G.1]
      refine ⟨fun hc => ?_, fun hc => ?_⟩
      · have e1 : k = s 107 77 := by omega
        subst e1
        refine hP.1 _ _ s_Gf_unborneBy_62 _ _ _ _ _ ?_
        simp (maxSteps := 1000000) (disch := omega) only [g_Gf_unborneBy_62, slk, List.map_cons, List.map_nil, List.sum_cons, List.sum_nil, vc_i, vc_r, vc_n, vc_l, vc_o, Nat.add_zero, kO_e, kA_e, hdO_a, eq_self, blk, stp, lg, ls0, lk, ls1, ls2, kI_i, kL_l, kR_r, kR_n, kR_o, s1I_i, s2I_i, s1L_l, s2L_l, s1R_r, s1R_n, s1R_o, s1A_a, cmpc, popn, swt, rf_s, rf_n, cat_i, cat_r, cat_n, cat_l, true_and, and_true, List.length_cons, List.length_nil, Nat.zero_add, Int.reduceToNat, Nat.reduceAdd, Nat.reduceDiv, Nat.reduceMod, Nat.reduceMul, Nat.reduceSub, Nat.reduceLeDiff, Nat.reduceLT, Nat.reduceEqDiff, ↓reduceIte, r_gr_wi, r_gl_wi, r_gk_wi, r_gn_wi, r_wi_eq, r_wi_ne, r_wi_nj, r_gi_wr, r_gl_wr, r_gk_wr, r_gn_wr, r_gr_wa, r_gl_wa, r_gk_wa, r_gn_wa, aa_e, as_e, al_e, u_lt, u_le, u_gt, u_ge, u_lt0, u_le0, u_gt0, u_ge0, Classical.not_not, not_true_eq_false, not_false_eq_true, oi_n, oi_m, n_dec, nI_add, pk_mul, n_sub, n_eq, n_le, n_lt, n_eq0, n_lt0, n_le0, n_0lt, n_0le, n_eqm, m_eqn, n_ltm, n_and, n_or, n_xor, n_shl, n_shr, tb1, tb0, bP_1, bP_0, bP_n0, ix_n, inb_n, u_eq, u_eqm, G.1]
        exact lfI r_Gf_unborneBy rfl rfl
      · have hk2 : k < s 107 77 := by omega
        have gk2 := G.2 k hk2
        have r := rs_gif W hk2
        have p := rs_p W r.2.1
        have nx : ∀ y, y = ubN s m e g (k + 1) → P 56 [some (.ref 61), some (.int (nI e)), some (.ref b), some (.int (nI g)), some (.int (nI y)), some (.int (nI k))] [] h2 0 0 := by
          intro y ey
          refine hP.1 _ _ s_Gf_unborneBy_56 _ _ _ _ _ ?_
          simp (maxSteps := 1000000) (disch := omega) only [g_Gf_unborneBy_56, slk, List.map_cons, List.map_nil, List.sum_cons, List.sum_nil, vc_i, vc_r, vc_n, vc_l, vc_o, Nat.add_zero, kO_e, kA_e, hdO_a, eq_self, blk, stp, lg, ls0, lk, ls1, ls2, kI_i, kL_l, kR_r, kR_n, kR_o, s1I_i, s2I_i, s1L_l, s2L_l, s1R_r, s1R_n, s1R_o, s1A_a, cmpc, popn, swt, rf_s, rf_n, cat_i, cat_r, cat_n, cat_l, true_and, and_true, List.length_cons, List.length_nil, Nat.zero_add, Int.reduceToNat, Nat.reduceAdd, Nat.reduceDiv, Nat.reduceMod, Nat.reduceMul, Nat.reduceSub, Nat.reduceLeDiff, Nat.reduceLT, Nat.reduceEqDiff, ↓reduceIte, r_gr_wi, r_gl_wi, r_gk_wi, r_gn_wi, r_wi_eq, r_wi_ne, r_wi_nj, r_gi_wr, r_gl_wr, r_gk_wr, r_gn_wr, r_gr_wa, r_gl_wa, r_gk_wa, r_gn_wa, aa_e, as_e, al_e, u_lt, u_le, u_gt, u_ge, u_lt0, u_le0, u_gt0, u_ge0, Classical.not_not, not_true_eq_false, not_false_eq_true, oi_n, oi_m, n_dec, nI_add, pk_mul, n_sub, n_eq, n_le, n_lt, n_eq0, n_lt0, n_le0, n_0lt, n_0le, n_eqm, m_eqn, n_ltm, n_and, n_or, n_xor, n_shl, n_shr, tb1, tb0, bP_1, bP_0, bP_n0, ix_n, inb_n, u_eq, u_eqm, G.1]
          rw [ey]
          exact ih (n - 1) (by omega) (k + 1) (by omega)
        have no : ¬ (s 151 k = e ∧ g.testBit k = true) → ubN s m e g k = ubN s m e g (k + 1) := fun z => (nif_f z).symm
        refine hP.1 _ _ s_Gf_unborneBy_20 _ _ _ _ _ ?_
        simp (maxSteps := 1000000) (disch := omega) only [g_Gf_unborneBy_20, slk, List.map_cons, List.map_nil, List.sum_cons, List.sum_nil, vc_i, vc_r, vc_n, vc_l, vc_o, Nat.add_zero, kO_e, kA_e, hdO_a, eq_self, blk, stp, lg, ls0, lk, ls1, ls2, kI_i, kL_l, kR_r, kR_n, kR_o, s1I_i, s2I_i, s1L_l, s2L_l, s1R_r, s1R_n, s1R_o, s1A_a, cmpc, popn, swt, rf_s, rf_n, cat_i, cat_r, cat_n, cat_l, true_and, and_true, List.length_cons, List.length_nil, Nat.zero_add, Int.reduceToNat, Nat.reduceAdd, Nat.reduceDiv, Nat.reduceMod, Nat.reduceMul, Nat.reduceSub, Nat.reduceLeDiff, Nat.reduceLT, Nat.reduceEqDiff, ↓reduceIte, r_gr_wi, r_gl_wi, r_gk_wi, r_gn_wi, r_wi_eq, r_wi_ne, r_wi_nj, r_gi_wr, r_gl_wr, r_gk_wr, r_gn_wr, r_gr_wa, r_gl_wa, r_gk_wa, r_gn_wa, aa_e, as_e, al_e, u_lt, u_le, u_gt, u_ge, u_lt0, u_le0, u_gt0, u_ge0, Classical.not_not, not_true_eq_false, not_false_eq_true, oi_n, oi_m, n_dec, nI_add, pk_mul, n_sub, n_eq, n_le, n_lt, n_eq0, n_lt0, n_le0, n_0lt, n_0le, n_eqm, m_eqn, n_ltm, n_and, n_or, n_xor, n_shl, n_shr, tb1, tb0, bP_1, bP_0, bP_n0, ix_n, inb_n, u_eq, u_eqm, k61 L, f61_1 L, k62 L, G.1, gk2.1, gk2.2.2.1, n_andn]
        refine ⟨fun q => nx _ (no (fun z => q z.1)), fun q => ?_⟩
        refine hP.1 _ _ s_Gf_unborneBy_31 _ _ _ _ _ ?_
        simp (maxSteps := 1000000) (disch := omega) only [g_Gf_unborneBy_31, slk, List.map_cons, List.map_nil, List.sum_cons, List.sum_nil, vc_i, vc_r, vc_n, vc_l, vc_o, Nat.add_zero, kO_e, kA_e, hdO_a, eq_self, blk, stp, lg, ls0, lk, ls1, ls2, kI_i, kL_l, kR_r, kR_n, kR_o, s1I_i, s2I_i, s1L_l, s2L_l, s1R_r, s1R_n, s1R_o, s1A_a, cmpc, popn, swt, rf_s, rf_n, cat_i, cat_r, cat_n, cat_l, true_and, and_true, List.length_cons, List.length_nil, Nat.zero_add, Int.reduceToNat, Nat.reduceAdd, Nat.reduceDiv, Nat.reduceMod, Nat.reduceMul, Nat.reduceSub, Nat.reduceLeDiff, Nat.reduceLT, Nat.reduceEqDiff, ↓reduceIte, r_gr_wi, r_gl_wi, r_gk_wi, r_gn_wi, r_wi_eq, r_wi_ne, r_wi_nj, r_gi_wr, r_gl_wr, r_gk_wr, r_gn_wr, r_gr_wa, r_gl_wa, r_gk_wa, r_gn_wa, aa_e, as_e, al_e, u_lt, u_le, u_gt, u_ge, u_lt0, u_le0, u_gt0, u_ge0, Classical.not_not, not_true_eq_false, not_false_eq_true, oi_n, oi_m, n_dec, nI_add, pk_mul, n_sub, n_eq, n_le, n_lt, n_eq0, n_lt0, n_le0, n_0lt, n_0le, n_eqm, m_eqn, n_ltm, n_and, n_or, n_xor, n_shl, n_shr, tb1, tb0, bP_1, bP_0, bP_n0, ix_n, inb_n, u_eq, u_eqm, G.1, gk2.1, gk2.2.2.1, n_andn]
        refine ⟨fun q2 => nx _ (no (fun z => by rw [z.2] at q2; cases q2)), fun q2 => ?_⟩
        refine hP.1 _ _ s_Gf_unborneBy_40 _ _ _ _ _ ?_
        simp (maxSteps := 1000000) (disch := omega) only [g_Gf_unborneBy_40, slk, List.map_cons, List.map_nil, List.sum_cons, List.sum_nil, vc_i, vc_r, vc_n, vc_l, vc_o, Nat.add_zero, kO_e, kA_e, hdO_a, eq_self, blk, stp, lg, ls0, lk, ls1, ls2, kI_i, kL_l, kR_r, kR_n, kR_o, s1I_i, s2I_i, s1L_l, s2L_l, s1R_r, s1R_n, s1R_o, s1A_a, cmpc, popn, swt, rf_s, rf_n, cat_i, cat_r, cat_n, cat_l, true_and, and_true, List.length_cons, List.length_nil, Nat.zero_add, Int.reduceToNat, Nat.reduceAdd, Nat.reduceDiv, Nat.reduceMod, Nat.reduceMul, Nat.reduceSub, Nat.reduceLeDiff, Nat.reduceLT, Nat.reduceEqDiff, ↓reduceIte, r_gr_wi, r_gl_wi, r_gk_wi, r_gn_wi, r_wi_eq, r_wi_ne, r_wi_nj, r_gi_wr, r_gl_wr, r_gk_wr, r_gn_wr, r_gr_wa, r_gl_wa, r_gk_wa, r_gn_wa, aa_e, as_e, al_e, u_lt, u_le, u_gt, u_ge, u_lt0, u_le0, u_gt0, u_ge0, Classical.not_not, not_true_eq_false, not_false_eq_true, oi_n, oi_m, n_dec, nI_add, pk_mul, n_sub, n_eq, n_le, n_lt, n_eq0, n_lt0, n_le0, n_0lt, n_0le, n_eqm, m_eqn, n_ltm, n_and, n_or, n_xor, n_shl, n_shr, tb1, tb0, bP_1, bP_0, bP_n0, ix_n, inb_n, u_eq, u_eqm, k61 L, f61_3 L, k64 L, G.1, gk2.1, gk2.2.2.1, n_andn]
        exact nx _ (show ubN s m e g (k + 1) = _ from nif_t ⟨by omega, by first | exact q2 | simpa using q2⟩).symm
  refine hP.1 _ _ s_Gf_unborneBy_0 _ _ _ _ _ ?_
  simp (maxSteps := 1000000) (disch := omega) only [g_Gf_unborneBy_0, slk, List.map_cons, List.map_nil, List.sum_cons, List.sum_nil, vc_i, vc_r, vc_n, vc_l, vc_o, Nat.add_zero, kO_e, kA_e, hdO_a, eq_self, blk, stp, lg, ls0, lk, ls1, ls2, kI_i, kL_l, kR_r, kR_n, kR_o, s1I_i, s2I_i, s1L_l, s2L_l, s1R_r, s1R_n, s1R_o, s1A_a, cmpc, popn, swt, rf_s, rf_n, cat_i, cat_r, cat_n, cat_l, true_and, and_true, List.length_cons, List.length_nil, Nat.zero_add, Int.reduceToNat, Nat.reduceAdd, Nat.reduceDiv, Nat.reduceMod, Nat.reduceMul, Nat.reduceSub, Nat.reduceLeDiff, Nat.reduceLT, Nat.reduceEqDiff, ↓reduceIte, r_gr_wi, r_gl_wi, r_gk_wi, r_gn_wi, r_wi_eq, r_wi_ne, r_wi_nj, r_gi_wr, r_gl_wr, r_gk_wr, r_gn_wr, r_gr_wa, r_gl_wa, r_gk_wa, r_gn_wa, aa_e, as_e, al_e, u_lt, u_le, u_gt, u_ge, u_lt0, u_le0, u_gt0, u_ge0, Classical.not_not, not_true_eq_false, not_false_eq_true, oi_n, oi_m, n_dec, nI_add, pk_mul, n_sub, n_eq, n_le, n_lt, n_eq0, n_lt0, n_le0, n_0lt, n_0le, n_eqm, m_eqn, n_ltm, n_and, n_or, n_xor, n_shl, n_shr, tb1, tb0, bP_1, bP_0, bP_n0, ix_n, inb_n, u_eq, u_eqm, ma_k M, ma_k1 M, ma_r3 M, v.1]
  exact loop _ 0 (Nat.zero_add _)
noncomputable def ubA (s : St) (m g n : Nat) : Nat := orN n (fun j => ubN s m (sd s j) g (s 107 77))
theorem c_Gf_isEnough (W : RH h s) {h2 : AH} (L : Lay h2) (C : CC h2 s) (G : GFC h2 s) {m g : Nat} (M : MA h2 b (s 112 m)) (V : MV h2 s m b) (hg : g < 256) {F1 F2 : List Nat} (GA : GAT h2 F1 F2) (hF : F1.length ≤ 1024) (hb : ∀ j, F1.getD j 0 < 2 ^ 20) : Mz (d + 2) 172 [.ref 61, .ref b, .int (nI g)] h2 0 0 (Rt (bP (∃ y ∈ F1, y &&& ubA s m g (sn s) = 0)) h2) := by
  have b6 := sn_le W
  have al : ∀ n, ubA s m g n < 2 ^ 20 := fun n => orN_lt fun j hj => ubN_lt _ _ _ _ _
  refine mz_in (l := [some (.ref 61), some (.ref b), some (.int (nI g)), none, none]) mk_Gf_isEnough n_Gf_isEnough rfl l_Gf_isEnough rfl (Nat.le_of_ble_eq_true rfl) fun P hP => ?_
  have loop2 : ∀ n k, k + n = F1.length → (∀ j, j < k → ¬ F1.getD j 0 &&& ubA s m g (sn s) = 0) → P 45 [some (.ref 61), some (.ref b), some (.int (nI g)), some (.int (nI (ubA s m g (sn s)))), some (.int (nI k))] [] h2 0 0 := by
    intro n
    have a0 := al (sn s)
    induction n using Nat.strongRecOn with
    | _ n ih =>
      intro k hk hI
      refine hP.1 _ _ s_Gf_isEnough_45 _ _ _ _ _ ?_
      simp (maxSteps := 1000000) (disch := omega) only [g_Gf_isEnough_45, slk, List.map_cons, List.map_nil, List.sum_cons, List.sum_nil, vc_i, vc_r, vc_n, vc_l, vc_o, Nat.add_zero, kO_e, kA_e, hdO_a, eq_self, blk, stp, lg, ls0, lk, ls1, ls2, kI_i, kL_l, kR_r, kR_n, kR_o, s1I_i, s2I_i, s1L_l, s2L_l, s1R_r, s1R_n, s1R_o, s1A_a, cmpc, popn, swt, rf_s, rf_n, cat_i, cat_r, cat_n, cat_l, true_and, and_true, List.length_cons, List.length_nil, Nat.zero_add, Int.reduceToNat, Nat.reduceAdd, Nat.reduceDiv, Nat.reduceMod, Nat.reduceMul, Nat.reduceSub, Nat.reduceLeDiff, Nat.reduceLT, Nat.reduceEqDiff, ↓reduceIte, r_gr_wi, r_gl_wi, r_gk_wi, r_gn_wi, r_wi_eq, r_wi_ne, r_wi_nj, r_gi_wr, r_gl_wr, r_gk_wr, r_gn_wr, r_gr_wa, r_gl_wa, r_gk_wa, r_gn_wa, aa_e, as_e, al_e, u_lt, u_le, u_gt, u_ge, u_lt0, u_le0, u_gt0, u_ge0, Classical.not_not, not_true_eq_false, not_false_eq_true, oi_n, oi_m, n_dec, nI_add, pk_mul, n_sub, n_eq, n_le, n_lt, n_eq0, n_lt0, n_le0, n_0lt, n_0le, n_eqm, m_eqn, n_ltm, n_and, n_or, n_xor, n_shl, n_shr, tb1, tb0, bP_1, bP_0, bP_n0, ix_n, inb_n, u_eq, u_eqm, k61 L, GA.1.1]
      refine ⟨fun hc => ?_, fun hc => ?_⟩
      · have e1 : k = F1.length := by omega
        refine hP.1 _ _ s_Gf_isEnough_74 _ _ _ _ _ ?_
        simp (maxSteps := 1000000) (disch := omega) only [g_Gf_isEnough_74, slk, List.map_cons, List.map_nil, List.sum_cons, List.sum_nil, vc_i, vc_r, vc_n, vc_l, vc_o, Nat.add_zero, kO_e, kA_e, hdO_a, eq_self, blk, stp, lg, ls0, lk, ls1, ls2, kI_i, kL_l, kR_r, kR_n, kR_o, s1I_i, s2I_i, s1L_l, s2L_l, s1R_r, s1R_n, s1R_o, s1A_a, cmpc, popn, swt, rf_s, rf_n, cat_i, cat_r, cat_n, cat_l, true_and, and_true, List.length_cons, List.length_nil, Nat.zero_add, Int.reduceToNat, Nat.reduceAdd, Nat.reduceDiv, Nat.reduceMod, Nat.reduceMul, Nat.reduceSub, Nat.reduceLeDiff, Nat.reduceLT, Nat.reduceEqDiff, ↓reduceIte, r_gr_wi, r_gl_wi, r_gk_wi, r_gn_wi, r_wi_eq, r_wi_ne, r_wi_nj, r_gi_wr, r_gl_wr, r_gk_wr, r_gn_wr, r_gr_wa, r_gl_wa, r_gk_wa, r_gn_wa, aa_e, as_e, al_e, u_lt, u_le, u_gt, u_ge, u_lt0, u_le0, u_gt0, u_ge0, Classical.not_not, not_true_eq_false, not_false_eq_true, oi_n, oi_m, n_dec, nI_add, pk_mul, n_sub, n_eq, n_le, n_lt, n_eq0, n_lt0, n_le0, n_0lt, n_0le, n_eqm, m_eqn, n_ltm, n_and, n_or, n_xor, n_shl, n_shr, tb1, tb0, bP_1, bP_0, bP_n0, ix_n, inb_n, u_eq, u_eqm, GA.1.1]
        exact lfF r_Gf_isEnough (fun ⟨y, hy, z⟩ => by
          obtain ⟨j, hj, rfl⟩ := List.mem_iff_getElem.mp hy
          refine hI j (by omega) ?_
          rw [List.getD_eq_getElem?_getD, List.getElem?_eq_getElem hj]
          exact z) rfl
      · have hk2 : k < F1.length := by omega
        have bk := hb k
        have ad := and_lt (b := ubA s m g (sn s)) bk
        refine hP.1 _ _ s_Gf_isEnough_54 _ _ _ _ _ ?_
        simp (maxSteps := 1000000) (disch := omega) only [g_Gf_isEnough_54, slk, List.map_cons, List.map_nil, List.sum_cons, List.sum_nil, vc_i, vc_r, vc_n, vc_l, vc_o, Nat.add_zero, kO_e, kA_e, hdO_a, eq_self, blk, stp, lg, ls0, lk, ls1, ls2, kI_i, kL_l, kR_r, kR_n, kR_o, s1I_i, s2I_i, s1L_l, s2L_l, s1R_r, s1R_n, s1R_o, s1A_a, cmpc, popn, swt, rf_s, rf_n, cat_i, cat_r, cat_n, cat_l, true_and, and_true, List.length_cons, List.length_nil, Nat.zero_add, Int.reduceToNat, Nat.reduceAdd, Nat.reduceDiv, Nat.reduceMod, Nat.reduceMul, Nat.reduceSub, Nat.reduceLeDiff, Nat.reduceLT, Nat.reduceEqDiff, ↓reduceIte, r_gr_wi, r_gl_wi, r_gk_wi, r_gn_wi, r_wi_eq, r_wi_ne, r_wi_nj, r_gi_wr, r_gl_wr, r_gk_wr, r_gn_wr, r_gr_wa, r_gl_wa, r_gk_wa, r_gn_wa, aa_e, as_e, al_e, u_lt, u_le, u_gt, u_ge, u_lt0, u_le0, u_gt0, u_ge0, Classical.not_not, not_true_eq_false, not_false_eq_true, oi_n, oi_m, n_dec, nI_add, pk_mul, n_sub, n_eq, n_le, n_lt, n_eq0, n_lt0, n_le0, n_0lt, n_0le, n_eqm, m_eqn, n_ltm, n_and, n_or, n_xor, n_shl, n_shr, tb1, tb0, bP_1, bP_0, bP_n0, ix_n, inb_n, u_eq, u_eqm, k61 L, f61_6 L, k67 L, GA.1.1, GA.2.1 k hk2]
        refine ⟨fun q => ?_, fun q => ?_⟩
        · refine hP.1 _ _ s_Gf_isEnough_68 _ _ _ _ _ ?_
          simp (maxSteps := 1000000) (disch := omega) only [g_Gf_isEnough_68, slk, List.map_cons, List.map_nil, List.sum_cons, List.sum_nil, vc_i, vc_r, vc_n, vc_l, vc_o, Nat.add_zero, kO_e, kA_e, hdO_a, eq_self, blk, stp, lg, ls0, lk, ls1, ls2, kI_i, kL_l, kR_r, kR_n, kR_o, s1I_i, s2I_i, s1L_l, s2L_l, s1R_r, s1R_n, s1R_o, s1A_a, cmpc, popn, swt, rf_s, rf_n, cat_i, cat_r, cat_n, cat_l, true_and, and_true, List.length_cons, List.length_nil, Nat.zero_add, Int.reduceToNat, Nat.reduceAdd, Nat.reduceDiv, Nat.reduceMod, Nat.reduceMul, Nat.reduceSub, Nat.reduceLeDiff, Nat.reduceLT, Nat.reduceEqDiff, ↓reduceIte, r_gr_wi, r_gl_wi, r_gk_wi, r_gn_wi, r_wi_eq, r_wi_ne, r_wi_nj, r_gi_wr, r_gl_wr, r_gk_wr, r_gn_wr, r_gr_wa, r_gl_wa, r_gk_wa, r_gn_wa, aa_e, as_e, al_e, u_lt, u_le, u_gt, u_ge, u_lt0, u_le0, u_gt0, u_ge0, Classical.not_not, not_true_eq_false, not_false_eq_true, oi_n, oi_m, n_dec, nI_add, pk_mul, n_sub, n_eq, n_le, n_lt, n_eq0, n_lt0, n_le0, n_0lt, n_0le, n_eqm, m_eqn, n_ltm, n_and, n_or, n_xor, n_shl, n_shr, tb1, tb0, bP_1, bP_0, bP_n0, ix_n, inb_n, u_eq, u_eqm, GA.1.1, GA.2.1 k hk2]
          refine ih (n - 1) (by omega) (k + 1) (by omega) (fun j hj => ?_)
          by_cases e : j = k
          · rw [e]
            exact q
          · exact hI j (by omega)
        · refine hP.1 _ _ s_Gf_isEnough_66 _ _ _ _ _ ?_
          simp (maxSteps := 1000000) (disch := omega) only [g_Gf_isEnough_66, slk, List.map_cons, List.map_nil, List.sum_cons, List.sum_nil, vc_i, vc_r, vc_n, vc_l, vc_o, Nat.add_zero, kO_e, kA_e, hdO_a, eq_self, blk, stp, lg, ls0, lk, ls1, ls2, kI_i, kL_l, kR_r, kR_n, kR_o, s1I_i, s2I_i, s1L_l, s2L_l, s1R_r, s1R_n, s1R_o, s1A_a, cmpc, popn, swt, rf_s, rf_n, cat_i, cat_r, cat_n, cat_l, true_and, and_true, List.length_cons, List.length_nil, Nat.zero_add, Int.reduceToNat, Nat.reduceAdd, Nat.reduceDiv, Nat.reduceMod, Nat.reduceMul, Nat.reduceSub, Nat.reduceLeDiff, Nat.reduceLT, Nat.reduceEqDiff, ↓reduceIte, r_gr_wi, r_gl_wi, r_gk_wi, r_gn_wi, r_wi_eq, r_wi_ne, r_wi_nj, r_gi_wr, r_gl_wr, r_gk_wr, r_gn_wr, r_gr_wa, r_gl_wa, r_gk_wa, r_gn_wa, aa_e, as_e, al_e, u_lt, u_le, u_gt, u_ge, u_lt0, u_le0, u_gt0, u_ge0, Classical.not_not, not_true_eq_false, not_false_eq_true, oi_n, oi_m, n_dec, nI_add, pk_mul, n_sub, n_eq, n_le, n_lt, n_eq0, n_lt0, n_le0, n_0lt, n_0le, n_eqm, m_eqn, n_ltm, n_and, n_or, n_xor, n_shl, n_shr, tb1, tb0, bP_1, bP_0, bP_n0, ix_n, inb_n, u_eq, u_eqm, GA.1.1, GA.2.1 k hk2]
          exact lfT r_Gf_isEnough ⟨F1.getD k 0, by
            rw [List.getD_eq_getElem?_getD, List.getElem?_eq_getElem hk2]
            exact List.getElem_mem hk2, by first | exact q | exact Classical.not_not.mp q⟩ rfl
  have loop1 : ∀ n k, k + n = sn s → P 5 [some (.ref 61), some (.ref b), some (.int (nI g)), some (.int (nI (ubA s m g k))), some (.int (nI k))] [] h2 0 0 := by
    intro n
    induction n using Nat.strongRecOn with
    | _ n ih =>
      intro k hk
      have ak := al k
      refine hP.1 _ _ s_Gf_isEnough_5 _ _ _ _ _ ?_
      simp (maxSteps := 1000000) (disch := omega) only [g_Gf_isEnough_5, slk, List.map_cons, List.map_nil, List.sum_cons, List.sum_nil, vc_i, vc_r, vc_n, vc_l, vc_o, Nat.add_zero, kO_e, kA_e, hdO_a, eq_self, blk, stp, lg, ls0, lk, ls1, ls2, kI_i, kL_l, kR_r, kR_n, kR_o, s1I_i, s2I_i, s1L_l, s2L_l, s1R_r, s1R_n, s1R_o, s1A_a, cmpc, popn, swt, rf_s, rf_n, cat_i, cat_r, cat_n, cat_l, true_and, and_true, List.length_cons, List.length_nil, Nat.zero_add, Int.reduceToNat, Nat.reduceAdd, Nat.reduceDiv, Nat.reduceMod, Nat.reduceMul, Nat.reduceSub, Nat.reduceLeDiff, Nat.reduceLT, Nat.reduceEqDiff, ↓reduceIte, r_gr_wi, r_gl_wi, r_gk_wi, r_gn_wi, r_wi_eq, r_wi_ne, r_wi_nj, r_gi_wr, r_gl_wr, r_gk_wr, r_gn_wr, r_gr_wa, r_gl_wa, r_gk_wa, r_gn_wa, aa_e, as_e, al_e, u_lt, u_le, u_gt, u_ge, u_lt0, u_le0, u_gt0, u_ge0, Classical.not_not, not_true_eq_false, not_false_eq_true, oi_n, oi_m, n_dec, nI_add, pk_mul, n_sub, n_eq, n_le, n_lt, n_eq0, n_lt0, n_le0, n_0lt, n_0le, n_eqm, m_eqn, n_ltm, n_and, n_or, n_xor, n_shl, n_shr, tb1, tb0, bP_1, bP_0, bP_n0, ix_n, inb_n, u_eq, u_eqm, k61 L, f61_0 L, k21 L, C.1.2.1]
      refine ⟨fun hc => ?_, fun hc => ?_⟩
      · have e1 : k = sn s := by omega
        rw [e1]
        refine hP.1 _ _ s_Gf_isEnough_42 _ _ _ _ _ ?_
        simp (maxSteps := 1000000) (disch := omega) only [g_Gf_isEnough_42, slk, List.map_cons, List.map_nil, List.sum_cons, List.sum_nil, vc_i, vc_r, vc_n, vc_l, vc_o, Nat.add_zero, kO_e, kA_e, hdO_a, eq_self, blk, stp, lg, ls0, lk, ls1, ls2, kI_i, kL_l, kR_r, kR_n, kR_o, s1I_i, s2I_i, s1L_l, s2L_l, s1R_r, s1R_n, s1R_o, s1A_a, cmpc, popn, swt, rf_s, rf_n, cat_i, cat_r, cat_n, cat_l, true_and, and_true, List.length_cons, List.length_nil, Nat.zero_add, Int.reduceToNat, Nat.reduceAdd, Nat.reduceDiv, Nat.reduceMod, Nat.reduceMul, Nat.reduceSub, Nat.reduceLeDiff, Nat.reduceLT, Nat.reduceEqDiff, ↓reduceIte, r_gr_wi, r_gl_wi, r_gk_wi, r_gn_wi, r_wi_eq, r_wi_ne, r_wi_nj, r_gi_wr, r_gl_wr, r_gk_wr, r_gn_wr, r_gr_wa, r_gl_wa, r_gk_wa, r_gn_wa, aa_e, as_e, al_e, u_lt, u_le, u_gt, u_ge, u_lt0, u_le0, u_gt0, u_ge0, Classical.not_not, not_true_eq_false, not_false_eq_true, oi_n, oi_m, n_dec, nI_add, pk_mul, n_sub, n_eq, n_le, n_lt, n_eq0, n_lt0, n_le0, n_0lt, n_0le, n_eqm, m_eqn, n_ltm, n_and, n_or, n_xor, n_shl, n_shr, tb1, tb0, bP_1, bP_0, bP_n0, ix_n, inb_n, u_eq, u_eqm, C.1.2.1]
        exact loop2 _ 0 (Nat.zero_add _) (fun j hj => absurd hj (Nat.not_lt_zero _))
      · have hk2 : k < sn s := by omega
        have s8 := sd_lt W hk2
        refine hP.1 _ _ s_Gf_isEnough_17 _ _ _ _ _ ?_
        simp (maxSteps := 1000000) (disch := omega) only [g_Gf_isEnough_17, slk, List.map_cons, List.map_nil, List.sum_cons, List.sum_nil, vc_i, vc_r, vc_n, vc_l, vc_o, Nat.add_zero, kO_e, kA_e, hdO_a, eq_self, blk, stp, lg, ls0, lk, ls1, ls2, kI_i, kL_l, kR_r, kR_n, kR_o, s1I_i, s2I_i, s1L_l, s2L_l, s1R_r, s1R_n, s1R_o, s1A_a, cmpc, popn, swt, rf_s, rf_n, cat_i, cat_r, cat_n, cat_l, true_and, and_true, List.length_cons, List.length_nil, Nat.zero_add, Int.reduceToNat, Nat.reduceAdd, Nat.reduceDiv, Nat.reduceMod, Nat.reduceMul, Nat.reduceSub, Nat.reduceLeDiff, Nat.reduceLT, Nat.reduceEqDiff, ↓reduceIte, r_gr_wi, r_gl_wi, r_gk_wi, r_gn_wi, r_wi_eq, r_wi_ne, r_wi_nj, r_gi_wr, r_gl_wr, r_gk_wr, r_gn_wr, r_gr_wa, r_gl_wa, r_gk_wa, r_gn_wa, aa_e, as_e, al_e, u_lt, u_le, u_gt, u_ge, u_lt0, u_le0, u_gt0, u_ge0, Classical.not_not, not_true_eq_false, not_false_eq_true, oi_n, oi_m, n_dec, nI_add, pk_mul, n_sub, n_eq, n_le, n_lt, n_eq0, n_lt0, n_le0, n_0lt, n_0le, n_eqm, m_eqn, n_ltm, n_and, n_or, n_xor, n_shl, n_shr, tb1, tb0, bP_1, bP_0, bP_n0, ix_n, inb_n, u_eq, u_eqm, k61 L, f61_0 L, k21 L, f21_3 L, k33 L, C.1.2.1, C.2.2.2.1 k hk2]
        refine wc (c_Gf_unborneBy W L G M V s8 hg) ⟨by omega, by omega⟩ ?_
        simp (maxSteps := 1000000) (disch := omega) only [slk, List.map_cons, List.map_nil, List.sum_cons, List.sum_nil, vc_i, vc_r, vc_n, vc_l, vc_o, Nat.add_zero, kO_e, kA_e, hdO_a, eq_self, blk, stp, lg, ls0, lk, ls1, ls2, kI_i, kL_l, kR_r, kR_n, kR_o, s1I_i, s2I_i, s1L_l, s2L_l, s1R_r, s1R_n, s1R_o, s1A_a, cmpc, popn, swt, rf_s, rf_n, cat_i, cat_r, cat_n, cat_l, true_and, and_true, List.length_cons, List.length_nil, Nat.zero_add, Int.reduceToNat, Nat.reduceAdd, Nat.reduceDiv, Nat.reduceMod, Nat.reduceMul, Nat.reduceSub, Nat.reduceLeDiff, Nat.reduceLT, Nat.reduceEqDiff, ↓reduceIte, r_gr_wi, r_gl_wi, r_gk_wi, r_gn_wi, r_wi_eq, r_wi_ne, r_wi_nj, r_gi_wr, r_gl_wr, r_gk_wr, r_gn_wr, r_gr_wa, r_gl_wa, r_gk_wa, r_gn_wa, aa_e, as_e, al_e, u_lt, u_le, u_gt, u_ge, u_lt0, u_le0, u_gt0, u_ge0, Classical.not_not, not_true_eq_false, not_false_eq_true, oi_n, oi_m, n_dec, nI_add, pk_mul, n_sub, n_eq, n_le, n_lt, n_eq0, n_lt0, n_le0, n_0lt, n_0le, n_eqm, m_eqn, n_ltm, n_and, n_or, n_xor, n_shl, n_shr, tb1, tb0, bP_1, bP_0, bP_n0, ix_n, inb_n, u_eq, u_eqm, k61 L, f61_0 L, k21 L, f21_3 L, k33 L, C.1.2.1, C.2.2.2.1 k hk2]
        exact ih (n - 1) (by omega) (k + 1) (by omega)
  refine hP.1 _ _ s_Gf_isEnough_0 _ _ _ _ _ ?_
  simp (maxSteps := 1000000) (disch := omega) only [g_Gf_isEnough_0, slk, List.map_cons, List.map_nil, List.sum_cons, List.sum_nil, vc_i, vc_r, vc_n, vc_l, vc_o, Nat.add_zero, kO_e, kA_e, hdO_a, eq_self, blk, stp, lg, ls0, lk, ls1, ls2, kI_i, kL_l, kR_r, kR_n, kR_o, s1I_i, s2I_i, s1L_l, s2L_l, s1R_r, s1R_n, s1R_o, s1A_a, cmpc, popn, swt, rf_s, rf_n, cat_i, cat_r, cat_n, cat_l, true_and, and_true, List.length_cons, List.length_nil, Nat.zero_add, Int.reduceToNat, Nat.reduceAdd, Nat.reduceDiv, Nat.reduceMod, Nat.reduceMul, Nat.reduceSub, Nat.reduceLeDiff, Nat.reduceLT, Nat.reduceEqDiff, ↓reduceIte, r_gr_wi, r_gl_wi, r_gk_wi, r_gn_wi, r_wi_eq, r_wi_ne, r_wi_nj, r_gi_wr, r_gl_wr, r_gk_wr, r_gn_wr, r_gr_wa, r_gl_wa, r_gk_wa, r_gn_wa, aa_e, as_e, al_e, u_lt, u_le, u_gt, u_ge, u_lt0, u_le0, u_gt0, u_ge0, Classical.not_not, not_true_eq_false, not_false_eq_true, oi_n, oi_m, n_dec, nI_add, pk_mul, n_sub, n_eq, n_le, n_lt, n_eq0, n_lt0, n_le0, n_0lt, n_0le, n_eqm, m_eqn, n_ltm, n_and, n_or, n_xor, n_shl, n_shr, tb1, tb0, bP_1, bP_0, bP_n0, ix_n, inb_n, u_eq, u_eqm]
  exact loop1 _ 0 (Nat.zero_add _)
/-- a trade, as the class sees it -/
theorem tr_eq (W : RH h s) (g0 : s 107 22 = 0) {m o g : Nat} (hm : m < s 107 19) (ho : o < s 107 19) (hg : g < 1 <<< s 107 77) : trP s m o g ↔ adN g (btN s m o (s 107 77)) = 0 ∧ (∃ y ∈ ssL s o (1 <<< (2 * s 112 o)), adN (askN s g (s 107 77)) y = 0) ∧ ∃ y ∈ fsL s m (1 <<< (2 * s 112 m)), y &&& ubA s m g (sn s) = 0 := by
  have b2 := rs_gf W
  have r2 := rs_p W hm
  rw [Nat.one_shiftLeft] at hg
  have gl := lt_pow_bit.mp hg
  have tA : trA s m o g ↔ adN g (btN s m o (s 107 77)) = 0 := by
    rw [adN_0]
    unfold trA
    constructor
    · intro q i hi
      have hl : i < s 107 77 := Nat.lt_of_not_le fun z => by rw [gl i z] at hi; cases hi
      exact (btN_bit _ _ _ _ _).mpr ⟨hl, q i hl hi⟩
    · intro q k hk hb
      exact ((btN_bit _ _ _ _ _).mp (q k hb)).2
  unfold trP
  rw [← tA]
  refine and_congr_right fun tr => ?_
  rw [and_comm]
  refine and_congr ⟨?_, ?_⟩ ⟨?_, ?_⟩
  · rintro ⟨x, ⟨pr, ab⟩, q⟩
    refine ⟨_, mem_gaL.mpr ⟨x, pr.1, ⟨pr, ab⟩, rfl⟩, (adN_0 _ _).mpr fun i hi => ?_⟩
    obtain ⟨k, hk, hb, e⟩ := (askN_bit _ _ _ _).mp hi
    have r := rs_gif W hk
    have t := tr k hk hb
    rw [t.2.1] at r
    have p := rs_p W ho
    rw [sl_bit pr.2]
    have := q k hk hb
    rw [show i / 4 = s 156 k by omega, show i % 4 = s 157 k by omega]
    exact ⟨r.2.2.2.2.2.1, this.symm⟩
  · rintro ⟨y, hy, ad⟩
    obtain ⟨x, hx, ⟨pr, ab⟩, rfl⟩ := mem_gaL.mp hy
    refine ⟨x, ⟨pr, ab⟩, fun k hk hb => ?_⟩
    have r := rs_gif W hk
    have t := tr k hk hb
    rw [t.2.1] at r
    have p := rs_p W ho
    have := (adN_0 _ _).mp ad (4 * s 156 k + s 157 k) ((askN_bit _ _ _ _).mpr ⟨k, hk, hb, rfl⟩)
    rw [sl_bit pr.2] at this
    rw [show (4 * s 156 k + s 157 k) / 4 = s 156 k by omega, show (4 * s 156 k + s 157 k) % 4 = s 157 k by omega] at this
    exact this.2.symm
  · rintro ⟨x, pr, q⟩
    have pr : isPr s m x := pr
    have q2 : ∀ j, j < sn s → brP (gsS s g) (sd s j) m x (evN s m) := fun j hj => (q j hj).resolve_left (fun y => by rw [Nat.zero_testBit] at y; cases y)
    refine ⟨_, mem_gaL.mpr ⟨x, pr.1, ⟨pr, ?_⟩, rfl⟩, ?_⟩
    · rw [and_bit0]
      rintro e ⟨e1, e2⟩
      have so := (tho_bit W e).mp e2
      obtain ⟨j, hj, rfl⟩ := seat_ix W so
      obtain ⟨k, a1, a2, a3, a4⟩ := (clB_bit _ _ _).mp e1
      exact (q2 j hj).2 ((cls_ev W hm pr).mpr ⟨k, a1, a2, a3, a4, Or.inl rfl⟩)
    · rw [and_bit0]
      rintro i ⟨i1, i2⟩
      unfold ubA at i2
      rw [orN_bit] at i2
      obtain ⟨j, hj, u⟩ := i2
      have s8 := seat_of W hj
      obtain ⟨u1, u2⟩ := (ubN_bit _ _ _ _ _ _).mp u
      rw [sl_bit pr.2] at i1
      obtain ⟨c1, c2, c3⟩ := (cn_bit _ _ _ _ _).mp u1
      rcases (q2 j hj).1 (i / 4) i1.1 ((ev_bit m _).mpr i1.1) with z | ⟨k, hk, z⟩
      · have z2 : 0 < s 114 (((4 * sd s j + m) * 5 + i / 4) * 4 + wyN (s 112 m) x (i / 4)) := z
        rw [← i1.2, idx_eq, show 4 * (i / 4) + i % 4 = i by omega, c3] at z2
        exact absurd z2 (Nat.lt_irrefl _)
      · have hk2 : k < s 107 77 := hk
        have z1 : g.testBit k = true := z.1
        have z2 : s 151 k = sd s j := z.2.1
        have z3 : s 153 k = i / 4 := z.2.2.2.1
        have z4 : s 154 k = wyN (s 112 m) x (i / 4) := z.2.2.2.2
        exact u2 ⟨k, hk2, ⟨z2, z1⟩, by omega⟩
  · rintro ⟨y, hy, q⟩
    obtain ⟨x, hx, ⟨pr, cl⟩, rfl⟩ := mem_gaL.mp hy
    refine ⟨x, pr, fun j hj => Or.inr ⟨fun p hp _ => ?_, fun z => ?_⟩⟩
    · have hj2 : j < sn s := hj
      have so := seat_of W hj2
      have w4 := wyN_lt (s 112 m) x p
      have hp2 : p < s 112 m := hp
      by_cases z : s 114 (((4 * sd s j + m) * 5 + p) * 4 + wyN (s 112 m) x p) = 0
      · rw [and_bit0] at q
        have := q (4 * p + wyN (s 112 m) x p)
        rw [sl_bit pr.2, show (4 * p + wyN (s 112 m) x p) / 4 = p by omega, show (4 * p + wyN (s 112 m) x p) % 4 = wyN (s 112 m) x p by omega] at this
        have n2 : ¬ (ubN s m (sd s j) g (s 107 77)).testBit (4 * p + wyN (s 112 m) x p) = true := fun y => this ⟨⟨hp2, rfl⟩, by
          unfold ubA
          rw [orN_bit]
          exact ⟨j, hj2, y⟩⟩
        rw [ubN_bit] at n2
        have n3 : ∃ k, k < s 107 77 ∧ (s 151 k = sd s j ∧ g.testBit k = true) ∧ 4 * s 153 k + s 154 k = 4 * p + wyN (s 112 m) x p := by
          apply Classical.byContradiction
          intro y
          exact n2 ⟨(cn_bit _ _ _ _ _).mpr ⟨by omega, so.1, by rw [← idx_eq]; exact z⟩, y⟩
        obtain ⟨k, hk, ⟨k1, k2⟩, k3⟩ := n3
        have r := rs_gif W hk
        have t := tr k hk k2
        rw [t.1] at r
        exact Or.inr ⟨k, hk, k2, k1, t.1, (by omega : s 153 k = p), (by omega : s 154 k = wyN (s 112 m) x p)⟩
      · exact Or.inl (Nat.pos_of_ne_zero z)
    · have hj2 : j < sn s := hj
      have so := seat_of W hj2
      rw [and_bit0] at cl
      obtain ⟨k, a1, a2, a3, a4, _⟩ := (cls_ev W hm pr).mp z
      exact cl (sd s j) ⟨(clB_bit _ _ _).mpr ⟨k, a1, a2, a3, a4⟩, (tho_bit W _).mpr so⟩
def PGf (h : AH) (v : Int32) (r : Option (Option Value)) (h' : AH) : Prop := r = some (some (.int v)) ∧ Fp XG h h' ∧ gi h' 61 10 = gi h 61 10
theorem c_Gf_fewestFor (W : RH h s) (g0 : s 107 22 = 0) {h2 : AH} (L : Lay h2) (C : CC h2 s) (G : GFC h2 s) {m o : Nat} (hm : m < s 107 19) (ho : o < s 107 19) (M : MA h2 b (s 112 m)) (V : MV h2 s m b) (M2 : MA h2 c (s 112 o)) (V2 : MV h2 s o c) : Mz (d + 4) 169 [.ref 61, .ref b, .ref c, .int (nI (btN s m o (s 107 77)))] h2 0 0 (PGf h2 (oN (trdR s m o))) := by
  have b2 := rs_gf W
  have b4 := rs_p W hm
  have b5 := sh_1024 b4.2.1
  have c4 := rs_p W ho
  have c5 := sh_1024 c4.2.1
  have bb := ma_b M
  have bc := ma_b M2
  have bt := btN_lt (s := s) (m := m) (o := o) b2
  have L0 := L
  have p8 : 1 <<< s 107 77 ≤ 256 := by
    rw [Nat.one_shiftLeft]
    exact Nat.pow_le_pow_right (n := 2) (by omega) (by omega : s 107 77 ≤ 8)
  have fl := gaL_len (c1P s m) (slN (s 112 m) (s 113 m)) (1 <<< (2 * s 112 m))
  have sl2 := gaL_len (c2P s o) (slN (s 112 o) (s 113 o)) (1 <<< (2 * s 112 o))
  have fb : ∀ j, (fsL s m (1 <<< (2 * s 112 m))).getD j 0 < 2 ^ 20 := fun j => gaL_lt (fun x => sl_lt b4.2.1 _ x) (by decide) j
  have sb : ∀ j, (ssL s o (1 <<< (2 * s 112 o))).getD j 0 < 2 ^ 20 := fun j => gaL_lt (fun x => sl_lt c4.2.1 _ x) (by decide) j
  have xg : ∀ a, XG a → a < 21 ∨ 33 < a := fun a q => by unfold XG at q; omega
  refine mz_in (l := [some (.ref 61), some (.ref b), some (.ref c), some (.int (nI (btN s m o (s 107 77)))), none, none, none]) mk_Gf_fewestFor n_Gf_fewestFor rfl l_Gf_fewestFor rfl (Nat.le_of_ble_eq_true rfl) fun P hP => ?_
  refine hP.1 _ _ s_Gf_fewestFor_0 _ _ _ _ _ ?_
  simp (maxSteps := 1000000) (disch := omega) only [g_Gf_fewestFor_0, slk, List.map_cons, List.map_nil, List.sum_cons, List.sum_nil, vc_i, vc_r, vc_n, vc_l, vc_o, Nat.add_zero, kO_e, kA_e, hdO_a, eq_self, blk, stp, lg, ls0, lk, ls1, ls2, kI_i, kL_l, kR_r, kR_n, kR_o, s1I_i, s2I_i, s1L_l, s2L_l, s1R_r, s1R_n, s1R_o, s1A_a, cmpc, popn, swt, rf_s, rf_n, cat_i, cat_r, cat_n, cat_l, true_and, and_true, List.length_cons, List.length_nil, Nat.zero_add, Int.reduceToNat, Nat.reduceAdd, Nat.reduceDiv, Nat.reduceMod, Nat.reduceMul, Nat.reduceSub, Nat.reduceLeDiff, Nat.reduceLT, Nat.reduceEqDiff, ↓reduceIte, r_gr_wi, r_gl_wi, r_gk_wi, r_gn_wi, r_wi_eq, r_wi_ne, r_wi_nj, r_gi_wr, r_gl_wr, r_gk_wr, r_gn_wr, r_gr_wa, r_gl_wa, r_gk_wa, r_gn_wa, aa_e, as_e, al_e, u_lt, u_le, u_gt, u_ge, u_lt0, u_le0, u_gt0, u_ge0, Classical.not_not, not_true_eq_false, not_false_eq_true, oi_n, oi_m, n_dec, nI_add, pk_mul, n_sub, n_eq, n_le, n_lt, n_eq0, n_lt0, n_le0, n_0lt, n_0le, n_eqm, m_eqn, n_ltm, n_and, n_or, n_xor, n_shl, n_shr, tb1, tb0, bP_1, bP_0, bP_n0, ix_n, inb_n, u_eq, u_eqm, k61 L]
  refine ⟨_, _, _, c_Gf_gather W g0 L C hm ho M V M2 V2, ⟨by omega, by omega⟩, ?_⟩
  rintro r H ⟨rfl, F, h10, GA⟩
  have L := F.lay L0
  have C1 := F.cc C xg
  have G1 := F.gfc G h10 (fun a q => by unfold XG at q; omega)
  have M1 := F.ma M
  have V1 := F.mv V (fun a q => by unfold XG at q; omega)
  simp (maxSteps := 1000000) (disch := omega) only [slk, List.map_cons, List.map_nil, List.sum_cons, List.sum_nil, vc_i, vc_r, vc_n, vc_l, vc_o, Nat.add_zero, kO_e, kA_e, hdO_a, eq_self, blk, stp, lg, ls0, lk, ls1, ls2, kI_i, kL_l, kR_r, kR_n, kR_o, s1I_i, s2I_i, s1L_l, s2L_l, s1R_r, s1R_n, s1R_o, s1A_a, cmpc, popn, swt, rf_s, rf_n, cat_i, cat_r, cat_n, cat_l, true_and, and_true, List.length_cons, List.length_nil, Nat.zero_add, Int.reduceToNat, Nat.reduceAdd, Nat.reduceDiv, Nat.reduceMod, Nat.reduceMul, Nat.reduceSub, Nat.reduceLeDiff, Nat.reduceLT, Nat.reduceEqDiff, ↓reduceIte, r_gr_wi, r_gl_wi, r_gk_wi, r_gn_wi, r_wi_eq, r_wi_ne, r_wi_nj, r_gi_wr, r_gl_wr, r_gk_wr, r_gn_wr, r_gr_wa, r_gl_wa, r_gk_wa, r_gn_wa, aa_e, as_e, al_e, u_lt, u_le, u_gt, u_ge, u_lt0, u_le0, u_gt0, u_ge0, Classical.not_not, not_true_eq_false, not_false_eq_true, oi_n, oi_m, n_dec, nI_add, pk_mul, n_sub, n_eq, n_le, n_lt, n_eq0, n_lt0, n_le0, n_0lt, n_0le, n_eqm, m_eqn, n_ltm, n_and, n_or, n_xor, n_shl, n_shr, tb1, tb0, bP_1, bP_0, bP_n0, ix_n, inb_n, u_eq, u_eqm, k61 L]
  have loop : ∀ n k (x6 : Option Value), k + n = 1 <<< s 107 77 → P 12 [some (.ref 61), some (.ref b), some (.ref c), some (.int (nI (btN s m o (s 107 77)))), some (.int (oN (mnG (fun g => trP s m o g) (fun a b => kyN a < kyN b) k))), some (.int (nI k)), x6] [] H 0 0 := by
    intro n
    induction n using Nat.strongRecOn with
    | _ n ih =>
      intro k x6 hk
      have bl : ∀ q, mnG (fun g => trP s m o g) (fun a b => kyN a < kyN b) k = some q → q < 256 := fun q e => by
        have := (mnG_lt e).1
        omega
      refine hP.1 _ _ s_Gf_fewestFor_12 _ _ _ _ _ ?_
      simp (maxSteps := 1000000) (disch := omega) only [g_Gf_fewestFor_12, slk, List.map_cons, List.map_nil, List.sum_cons, List.sum_nil, vc_i, vc_r, vc_n, vc_l, vc_o, Nat.add_zero, kO_e, kA_e, hdO_a, eq_self, blk, stp, lg, ls0, lk, ls1, ls2, kI_i, kL_l, kR_r, kR_n, kR_o, s1I_i, s2I_i, s1L_l, s2L_l, s1R_r, s1R_n, s1R_o, s1A_a, cmpc, popn, swt, rf_s, rf_n, cat_i, cat_r, cat_n, cat_l, true_and, and_true, List.length_cons, List.length_nil, Nat.zero_add, Int.reduceToNat, Nat.reduceAdd, Nat.reduceDiv, Nat.reduceMod, Nat.reduceMul, Nat.reduceSub, Nat.reduceLeDiff, Nat.reduceLT, Nat.reduceEqDiff, ↓reduceIte, r_gr_wi, r_gl_wi, r_gk_wi, r_gn_wi, r_wi_eq, r_wi_ne, r_wi_nj, r_gi_wr, r_gl_wr, r_gk_wr, r_gn_wr, r_gr_wa, r_gl_wa, r_gk_wa, r_gn_wa, aa_e, as_e, al_e, u_lt, u_le, u_gt, u_ge, u_lt0, u_le0, u_gt0, u_ge0, Classical.not_not, not_true_eq_false, not_false_eq_true, oi_n, oi_m, n_dec, nI_add, pk_mul, n_sub, n_eq, n_le, n_lt, n_eq0, n_lt0, n_le0, n_0lt, n_0le, n_eqm, m_eqn, n_ltm, n_and, n_or, n_xor, n_shl, n_shr, tb1, tb0, bP_1, bP_0, bP_n0, ix_n, inb_n, u_eq, u_eqm, k61 L, G1.1]
      refine ⟨fun hc => ?_, fun hc => ?_⟩
      · have e1 : k = 1 <<< s 107 77 := by omega
        rw [e1]
        refine hP.1 _ _ s_Gf_fewestFor_89 _ _ _ _ _ ?_
        simp (maxSteps := 1000000) (disch := omega) only [g_Gf_fewestFor_89, slk, List.map_cons, List.map_nil, List.sum_cons, List.sum_nil, vc_i, vc_r, vc_n, vc_l, vc_o, Nat.add_zero, kO_e, kA_e, hdO_a, eq_self, blk, stp, lg, ls0, lk, ls1, ls2, kI_i, kL_l, kR_r, kR_n, kR_o, s1I_i, s2I_i, s1L_l, s2L_l, s1R_r, s1R_n, s1R_o, s1A_a, cmpc, popn, swt, rf_s, rf_n, cat_i, cat_r, cat_n, cat_l, true_and, and_true, List.length_cons, List.length_nil, Nat.zero_add, Int.reduceToNat, Nat.reduceAdd, Nat.reduceDiv, Nat.reduceMod, Nat.reduceMul, Nat.reduceSub, Nat.reduceLeDiff, Nat.reduceLT, Nat.reduceEqDiff, ↓reduceIte, r_gr_wi, r_gl_wi, r_gk_wi, r_gn_wi, r_wi_eq, r_wi_ne, r_wi_nj, r_gi_wr, r_gl_wr, r_gk_wr, r_gn_wr, r_gr_wa, r_gl_wa, r_gk_wa, r_gn_wa, aa_e, as_e, al_e, u_lt, u_le, u_gt, u_ge, u_lt0, u_le0, u_gt0, u_ge0, Classical.not_not, not_true_eq_false, not_false_eq_true, oi_n, oi_m, n_dec, nI_add, pk_mul, n_sub, n_eq, n_le, n_lt, n_eq0, n_lt0, n_le0, n_0lt, n_0le, n_eqm, m_eqn, n_ltm, n_and, n_or, n_xor, n_shl, n_shr, tb1, tb0, bP_1, bP_0, bP_n0, ix_n, inb_n, u_eq, u_eqm, G1.1]
        rw [r_Gf_fewestFor]
        exact ⟨trivial, rfl, F, h10⟩
      · have hk2 : k < 1 <<< s 107 77 := by omega
        have te := tr_eq W g0 hm ho hk2
        have nx : ∀ (v4 : Int32) x6, v4 = oN (mnG (fun g => trP s m o g) (fun a b => kyN a < kyN b) (k + 1)) → P 83 [some (.ref 61), some (.ref b), some (.ref c), some (.int (nI (btN s m o (s 107 77)))), some (.int (v4)), some (.int (nI k)), x6] [] H 0 0 := by
          intro v4 x6 e4
          refine hP.1 _ _ s_Gf_fewestFor_83 _ _ _ _ _ ?_
          simp (maxSteps := 1000000) (disch := omega) only [g_Gf_fewestFor_83, slk, List.map_cons, List.map_nil, List.sum_cons, List.sum_nil, vc_i, vc_r, vc_n, vc_l, vc_o, Nat.add_zero, kO_e, kA_e, hdO_a, eq_self, blk, stp, lg, ls0, lk, ls1, ls2, kI_i, kL_l, kR_r, kR_n, kR_o, s1I_i, s2I_i, s1L_l, s2L_l, s1R_r, s1R_n, s1R_o, s1A_a, cmpc, popn, swt, rf_s, rf_n, cat_i, cat_r, cat_n, cat_l, true_and, and_true, List.length_cons, List.length_nil, Nat.zero_add, Int.reduceToNat, Nat.reduceAdd, Nat.reduceDiv, Nat.reduceMod, Nat.reduceMul, Nat.reduceSub, Nat.reduceLeDiff, Nat.reduceLT, Nat.reduceEqDiff, ↓reduceIte, r_gr_wi, r_gl_wi, r_gk_wi, r_gn_wi, r_wi_eq, r_wi_ne, r_wi_nj, r_gi_wr, r_gl_wr, r_gk_wr, r_gn_wr, r_gr_wa, r_gl_wa, r_gk_wa, r_gn_wa, aa_e, as_e, al_e, u_lt, u_le, u_gt, u_ge, u_lt0, u_le0, u_gt0, u_ge0, Classical.not_not, not_true_eq_false, not_false_eq_true, oi_n, oi_m, n_dec, nI_add, pk_mul, n_sub, n_eq, n_le, n_lt, n_eq0, n_lt0, n_le0, n_0lt, n_0le, n_eqm, m_eqn, n_ltm, n_and, n_or, n_xor, n_shl, n_shr, tb1, tb0, bP_1, bP_0, bP_n0, ix_n, inb_n, u_eq, u_eqm, G1.1]
          rw [e4]
          exact ih (n - 1) (by omega) (k + 1) _ (by omega)
        have no : ¬ (trP s m o k ∧ ∀ q, mnG (fun g => trP s m o g) (fun a b => kyN a < kyN b) k = some q → kyN k < kyN q) → mnG (fun g => trP s m o g) (fun a b => kyN a < kyN b) (k + 1) = mnG (fun g => trP s m o g) (fun a b => kyN a < kyN b) k := fun z => mnG_f z
        have ye : (trP s m o k ∧ ∀ q, mnG (fun g => trP s m o g) (fun a b => kyN a < kyN b) k = some q → kyN k < kyN q) → mnG (fun g => trP s m o g) (fun a b => kyN a < kyN b) (k + 1) = some k := fun z => mnG_t z
        have om := oN_m1 (o := mnG (fun g => trP s m o g) (fun a b => kyN a < kyN b) k) (fun q e => by have := bl q e; omega)
        have ad := adN_lt (b := btN s m o (s 107 77)) (show k < 2 ^ 8 by omega)
        have bad : ¬ (adN k (btN s m o (s 107 77)) = 0 ∧ ∀ q, mnG (fun g => trP s m o g) (fun a b => kyN a < kyN b) k = some q → kyN k < kyN q) → P 52 [some (.ref 61), some (.ref b), some (.ref c), some (.int (nI (btN s m o (s 107 77)))), some (.int (oN (mnG (fun g => trP s m o g) (fun a b => kyN a < kyN b) k))), some (.int (nI k)), x6] [] H 0 0 := by
          intro z
          refine hP.1 _ _ s_Gf_fewestFor_52 _ _ _ _ _ ?_
          simp (maxSteps := 1000000) (disch := omega) only [g_Gf_fewestFor_52, slk, List.map_cons, List.map_nil, List.sum_cons, List.sum_nil, vc_i, vc_r, vc_n, vc_l, vc_o, Nat.add_zero, kO_e, kA_e, hdO_a, eq_self, blk, stp, lg, ls0, lk, ls1, ls2, kI_i, kL_l, kR_r, kR_n, kR_o, s1I_i, s2I_i, s1L_l, s2L_l, s1R_r, s1R_n, s1R_o, s1A_a, cmpc, popn, swt, rf_s, rf_n, cat_i, cat_r, cat_n, cat_l, true_and, and_true, List.length_cons, List.length_nil, Nat.zero_add, Int.reduceToNat, Nat.reduceAdd, Nat.reduceDiv, Nat.reduceMod, Nat.reduceMul, Nat.reduceSub, Nat.reduceLeDiff, Nat.reduceLT, Nat.reduceEqDiff, ↓reduceIte, r_gr_wi, r_gl_wi, r_gk_wi, r_gn_wi, r_wi_eq, r_wi_ne, r_wi_nj, r_gi_wr, r_gl_wr, r_gk_wr, r_gn_wr, r_gr_wa, r_gl_wa, r_gk_wa, r_gn_wa, aa_e, as_e, al_e, u_lt, u_le, u_gt, u_ge, u_lt0, u_le0, u_gt0, u_ge0, Classical.not_not, not_true_eq_false, not_false_eq_true, oi_n, oi_m, n_dec, nI_add, pk_mul, n_sub, n_eq, n_le, n_lt, n_eq0, n_lt0, n_le0, n_0lt, n_0le, n_eqm, m_eqn, n_ltm, n_and, n_or, n_xor, n_shl, n_shr, tb1, tb0, bP_1, bP_0, bP_n0, ix_n, inb_n, u_eq, u_eqm, G1.1]
          refine hP.1 _ _ s_Gf_fewestFor_53 _ _ _ _ _ ?_
          simp (maxSteps := 1000000) (disch := omega) only [g_Gf_fewestFor_53, slk, List.map_cons, List.map_nil, List.sum_cons, List.sum_nil, vc_i, vc_r, vc_n, vc_l, vc_o, Nat.add_zero, kO_e, kA_e, hdO_a, eq_self, blk, stp, lg, ls0, lk, ls1, ls2, kI_i, kL_l, kR_r, kR_n, kR_o, s1I_i, s2I_i, s1L_l, s2L_l, s1R_r, s1R_n, s1R_o, s1A_a, cmpc, popn, swt, rf_s, rf_n, cat_i, cat_r, cat_n, cat_l, true_and, and_true, List.length_cons, List.length_nil, Nat.zero_add, Int.reduceToNat, Nat.reduceAdd, Nat.reduceDiv, Nat.reduceMod, Nat.reduceMul, Nat.reduceSub, Nat.reduceLeDiff, Nat.reduceLT, Nat.reduceEqDiff, ↓reduceIte, r_gr_wi, r_gl_wi, r_gk_wi, r_gn_wi, r_wi_eq, r_wi_ne, r_wi_nj, r_gi_wr, r_gl_wr, r_gk_wr, r_gn_wr, r_gr_wa, r_gl_wa, r_gk_wa, r_gn_wa, aa_e, as_e, al_e, u_lt, u_le, u_gt, u_ge, u_lt0, u_le0, u_gt0, u_ge0, Classical.not_not, not_true_eq_false, not_false_eq_true, oi_n, oi_m, n_dec, nI_add, pk_mul, n_sub, n_eq, n_le, n_lt, n_eq0, n_lt0, n_le0, n_0lt, n_0le, n_eqm, m_eqn, n_ltm, n_and, n_or, n_xor, n_shl, n_shr, tb1, tb0, bP_1, bP_0, bP_n0, ix_n, inb_n, u_eq, u_eqm, G1.1]
          refine ⟨fun _ => nx _ _ (by rw [no (fun y => z ⟨(te.mp y.1).1, y.2⟩)]), fun y => by first | exact y.elim | exact absurd rfl y | exact absurd trivial y⟩
        have good : adN k (btN s m o (s 107 77)) = 0 → (∀ q, mnG (fun g => trP s m o g) (fun a b => kyN a < kyN b) k = some q → kyN k < kyN q) → P 48 [some (.ref 61), some (.ref b), some (.ref c), some (.int (nI (btN s m o (s 107 77)))), some (.int (oN (mnG (fun g => trP s m o g) (fun a b => kyN a < kyN b) k))), some (.int (nI k)), x6] [] H 0 0 := by
          intro z1 z2
          refine hP.1 _ _ s_Gf_fewestFor_48 _ _ _ _ _ ?_
          simp (maxSteps := 1000000) (disch := omega) only [g_Gf_fewestFor_48, slk, List.map_cons, List.map_nil, List.sum_cons, List.sum_nil, vc_i, vc_r, vc_n, vc_l, vc_o, Nat.add_zero, kO_e, kA_e, hdO_a, eq_self, blk, stp, lg, ls0, lk, ls1, ls2, kI_i, kL_l, kR_r, kR_n, kR_o, s1I_i, s2I_i, s1L_l, s2L_l, s1R_r, s1R_n, s1R_o, s1A_a, cmpc, popn, swt, rf_s, rf_n, cat_i, cat_r, cat_n, cat_l, true_and, and_true, List.length_cons, List.length_nil, Nat.zero_add, Int.reduceToNat, Nat.reduceAdd, Nat.reduceDiv, Nat.reduceMod, Nat.reduceMul, Nat.reduceSub, Nat.reduceLeDiff, Nat.reduceLT, Nat.reduceEqDiff, ↓reduceIte, r_gr_wi, r_gl_wi, r_gk_wi, r_gn_wi, r_wi_eq, r_wi_ne, r_wi_nj, r_gi_wr, r_gl_wr, r_gk_wr, r_gn_wr, r_gr_wa, r_gl_wa, r_gk_wa, r_gn_wa, aa_e, as_e, al_e, u_lt, u_le, u_gt, u_ge, u_lt0, u_le0, u_gt0, u_ge0, Classical.not_not, not_true_eq_false, not_false_eq_true, oi_n, oi_m, n_dec, nI_add, pk_mul, n_sub, n_eq, n_le, n_lt, n_eq0, n_lt0, n_le0, n_0lt, n_0le, n_eqm, m_eqn, n_ltm, n_and, n_or, n_xor, n_shl, n_shr, tb1, tb0, bP_1, bP_0, bP_n0, ix_n, inb_n, u_eq, u_eqm, G1.1]
          refine hP.1 _ _ s_Gf_fewestFor_53 _ _ _ _ _ ?_
          simp (maxSteps := 1000000) (disch := omega) only [g_Gf_fewestFor_53, slk, List.map_cons, List.map_nil, List.sum_cons, List.sum_nil, vc_i, vc_r, vc_n, vc_l, vc_o, Nat.add_zero, kO_e, kA_e, hdO_a, eq_self, blk, stp, lg, ls0, lk, ls1, ls2, kI_i, kL_l, kR_r, kR_n, kR_o, s1I_i, s2I_i, s1L_l, s2L_l, s1R_r, s1R_n, s1R_o, s1A_a, cmpc, popn, swt, rf_s, rf_n, cat_i, cat_r, cat_n, cat_l, true_and, and_true, List.length_cons, List.length_nil, Nat.zero_add, Int.reduceToNat, Nat.reduceAdd, Nat.reduceDiv, Nat.reduceMod, Nat.reduceMul, Nat.reduceSub, Nat.reduceLeDiff, Nat.reduceLT, Nat.reduceEqDiff, ↓reduceIte, r_gr_wi, r_gl_wi, r_gk_wi, r_gn_wi, r_wi_eq, r_wi_ne, r_wi_nj, r_gi_wr, r_gl_wr, r_gk_wr, r_gn_wr, r_gr_wa, r_gl_wa, r_gk_wa, r_gn_wa, aa_e, as_e, al_e, u_lt, u_le, u_gt, u_ge, u_lt0, u_le0, u_gt0, u_ge0, Classical.not_not, not_true_eq_false, not_false_eq_true, oi_n, oi_m, n_dec, nI_add, pk_mul, n_sub, n_eq, n_le, n_lt, n_eq0, n_lt0, n_le0, n_0lt, n_0le, n_eqm, m_eqn, n_ltm, n_and, n_or, n_xor, n_shl, n_shr, tb1, tb0, bP_1, bP_0, bP_n0, ix_n, inb_n, u_eq, u_eqm, G1.1]
          refine ⟨fun y => by first | exact y.elim | exact absurd y (by decide), fun _ => ?_⟩
          refine hP.1 _ _ s_Gf_fewestFor_60 _ _ _ _ _ ?_
          simp (maxSteps := 1000000) (disch := omega) only [g_Gf_fewestFor_60, slk, List.map_cons, List.map_nil, List.sum_cons, List.sum_nil, vc_i, vc_r, vc_n, vc_l, vc_o, Nat.add_zero, kO_e, kA_e, hdO_a, eq_self, blk, stp, lg, ls0, lk, ls1, ls2, kI_i, kL_l, kR_r, kR_n, kR_o, s1I_i, s2I_i, s1L_l, s2L_l, s1R_r, s1R_n, s1R_o, s1A_a, cmpc, popn, swt, rf_s, rf_n, cat_i, cat_r, cat_n, cat_l, true_and, and_true, List.length_cons, List.length_nil, Nat.zero_add, Int.reduceToNat, Nat.reduceAdd, Nat.reduceDiv, Nat.reduceMod, Nat.reduceMul, Nat.reduceSub, Nat.reduceLeDiff, Nat.reduceLT, Nat.reduceEqDiff, ↓reduceIte, r_gr_wi, r_gl_wi, r_gk_wi, r_gn_wi, r_wi_eq, r_wi_ne, r_wi_nj, r_gi_wr, r_gl_wr, r_gk_wr, r_gn_wr, r_gr_wa, r_gl_wa, r_gk_wa, r_gn_wa, aa_e, as_e, al_e, u_lt, u_le, u_gt, u_ge, u_lt0, u_le0, u_gt0, u_ge0, Classical.not_not, not_true_eq_false, not_false_eq_true, oi_n, oi_m, n_dec, nI_add, pk_mul, n_sub, n_eq, n_le, n_lt, n_eq0, n_lt0, n_le0, n_0lt, n_0le, n_eqm, m_eqn, n_ltm, n_and, n_or, n_xor, n_shl, n_shr, tb1, tb0, bP_1, bP_0, bP_n0, ix_n, inb_n, u_eq, u_eqm, k61 L, G1.1]
          refine wc (c_Gf_isGiven W L G1 (g := k) (by omega) GA (by unfold ssL; omega) sb) ⟨by omega, by omega⟩ ?_
          simp (maxSteps := 1000000) (disch := omega) only [slk, List.map_cons, List.map_nil, List.sum_cons, List.sum_nil, vc_i, vc_r, vc_n, vc_l, vc_o, Nat.add_zero, kO_e, kA_e, hdO_a, eq_self, blk, stp, lg, ls0, lk, ls1, ls2, kI_i, kL_l, kR_r, kR_n, kR_o, s1I_i, s2I_i, s1L_l, s2L_l, s1R_r, s1R_n, s1R_o, s1A_a, cmpc, popn, swt, rf_s, rf_n, cat_i, cat_r, cat_n, cat_l, true_and, and_true, List.length_cons, List.length_nil, Nat.zero_add, Int.reduceToNat, Nat.reduceAdd, Nat.reduceDiv, Nat.reduceMod, Nat.reduceMul, Nat.reduceSub, Nat.reduceLeDiff, Nat.reduceLT, Nat.reduceEqDiff, ↓reduceIte, r_gr_wi, r_gl_wi, r_gk_wi, r_gn_wi, r_wi_eq, r_wi_ne, r_wi_nj, r_gi_wr, r_gl_wr, r_gk_wr, r_gn_wr, r_gr_wa, r_gl_wa, r_gk_wa, r_gn_wa, aa_e, as_e, al_e, u_lt, u_le, u_gt, u_ge, u_lt0, u_le0, u_gt0, u_ge0, Classical.not_not, not_true_eq_false, not_false_eq_true, oi_n, oi_m, n_dec, nI_add, pk_mul, n_sub, n_eq, n_le, n_lt, n_eq0, n_lt0, n_le0, n_0lt, n_0le, n_eqm, m_eqn, n_ltm, n_and, n_or, n_xor, n_shl, n_shr, tb1, tb0, bP_1, bP_0, bP_n0, ix_n, inb_n, u_eq, u_eqm, k61 L, G1.1]
          refine ⟨fun q => nx _ _ (by rw [no (fun y => q (te.mp y.1).2.1)]), fun q => ?_⟩
          refine hP.1 _ _ s_Gf_fewestFor_69 _ _ _ _ _ ?_
          simp (maxSteps := 1000000) (disch := omega) only [g_Gf_fewestFor_69, slk, List.map_cons, List.map_nil, List.sum_cons, List.sum_nil, vc_i, vc_r, vc_n, vc_l, vc_o, Nat.add_zero, kO_e, kA_e, hdO_a, eq_self, blk, stp, lg, ls0, lk, ls1, ls2, kI_i, kL_l, kR_r, kR_n, kR_o, s1I_i, s2I_i, s1L_l, s2L_l, s1R_r, s1R_n, s1R_o, s1A_a, cmpc, popn, swt, rf_s, rf_n, cat_i, cat_r, cat_n, cat_l, true_and, and_true, List.length_cons, List.length_nil, Nat.zero_add, Int.reduceToNat, Nat.reduceAdd, Nat.reduceDiv, Nat.reduceMod, Nat.reduceMul, Nat.reduceSub, Nat.reduceLeDiff, Nat.reduceLT, Nat.reduceEqDiff, ↓reduceIte, r_gr_wi, r_gl_wi, r_gk_wi, r_gn_wi, r_wi_eq, r_wi_ne, r_wi_nj, r_gi_wr, r_gl_wr, r_gk_wr, r_gn_wr, r_gr_wa, r_gl_wa, r_gk_wa, r_gn_wa, aa_e, as_e, al_e, u_lt, u_le, u_gt, u_ge, u_lt0, u_le0, u_gt0, u_ge0, Classical.not_not, not_true_eq_false, not_false_eq_true, oi_n, oi_m, n_dec, nI_add, pk_mul, n_sub, n_eq, n_le, n_lt, n_eq0, n_lt0, n_le0, n_0lt, n_0le, n_eqm, m_eqn, n_ltm, n_and, n_or, n_xor, n_shl, n_shr, tb1, tb0, bP_1, bP_0, bP_n0, ix_n, inb_n, u_eq, u_eqm, k61 L, G1.1]
          refine wc (c_Gf_isEnough W L C1 G1 M1 V1 (g := k) (by omega) GA (by unfold fsL; omega) fb) ⟨by omega, by omega⟩ ?_
          simp (maxSteps := 1000000) (disch := omega) only [slk, List.map_cons, List.map_nil, List.sum_cons, List.sum_nil, vc_i, vc_r, vc_n, vc_l, vc_o, Nat.add_zero, kO_e, kA_e, hdO_a, eq_self, blk, stp, lg, ls0, lk, ls1, ls2, kI_i, kL_l, kR_r, kR_n, kR_o, s1I_i, s2I_i, s1L_l, s2L_l, s1R_r, s1R_n, s1R_o, s1A_a, cmpc, popn, swt, rf_s, rf_n, cat_i, cat_r, cat_n, cat_l, true_and, and_true, List.length_cons, List.length_nil, Nat.zero_add, Int.reduceToNat, Nat.reduceAdd, Nat.reduceDiv, Nat.reduceMod, Nat.reduceMul, Nat.reduceSub, Nat.reduceLeDiff, Nat.reduceLT, Nat.reduceEqDiff, ↓reduceIte, r_gr_wi, r_gl_wi, r_gk_wi, r_gn_wi, r_wi_eq, r_wi_ne, r_wi_nj, r_gi_wr, r_gl_wr, r_gk_wr, r_gn_wr, r_gr_wa, r_gl_wa, r_gk_wa, r_gn_wa, aa_e, as_e, al_e, u_lt, u_le, u_gt, u_ge, u_lt0, u_le0, u_gt0, u_ge0, Classical.not_not, not_true_eq_false, not_false_eq_true, oi_n, oi_m, n_dec, nI_add, pk_mul, n_sub, n_eq, n_le, n_lt, n_eq0, n_lt0, n_le0, n_0lt, n_0le, n_eqm, m_eqn, n_ltm, n_and, n_or, n_xor, n_shl, n_shr, tb1, tb0, bP_1, bP_0, bP_n0, ix_n, inb_n, u_eq, u_eqm, k61 L, G1.1]
          refine ⟨fun q2 => nx _ _ (by rw [no (fun y => q2 (te.mp y.1).2.2)]), fun q2 => ?_⟩
          refine hP.1 _ _ s_Gf_fewestFor_79 _ _ _ _ _ ?_
          simp (maxSteps := 1000000) (disch := omega) only [g_Gf_fewestFor_79, slk, List.map_cons, List.map_nil, List.sum_cons, List.sum_nil, vc_i, vc_r, vc_n, vc_l, vc_o, Nat.add_zero, kO_e, kA_e, hdO_a, eq_self, blk, stp, lg, ls0, lk, ls1, ls2, kI_i, kL_l, kR_r, kR_n, kR_o, s1I_i, s2I_i, s1L_l, s2L_l, s1R_r, s1R_n, s1R_o, s1A_a, cmpc, popn, swt, rf_s, rf_n, cat_i, cat_r, cat_n, cat_l, true_and, and_true, List.length_cons, List.length_nil, Nat.zero_add, Int.reduceToNat, Nat.reduceAdd, Nat.reduceDiv, Nat.reduceMod, Nat.reduceMul, Nat.reduceSub, Nat.reduceLeDiff, Nat.reduceLT, Nat.reduceEqDiff, ↓reduceIte, r_gr_wi, r_gl_wi, r_gk_wi, r_gn_wi, r_wi_eq, r_wi_ne, r_wi_nj, r_gi_wr, r_gl_wr, r_gk_wr, r_gn_wr, r_gr_wa, r_gl_wa, r_gk_wa, r_gn_wa, aa_e, as_e, al_e, u_lt, u_le, u_gt, u_ge, u_lt0, u_le0, u_gt0, u_ge0, Classical.not_not, not_true_eq_false, not_false_eq_true, oi_n, oi_m, n_dec, nI_add, pk_mul, n_sub, n_eq, n_le, n_lt, n_eq0, n_lt0, n_le0, n_0lt, n_0le, n_eqm, m_eqn, n_ltm, n_and, n_or, n_xor, n_shl, n_shr, tb1, tb0, bP_1, bP_0, bP_n0, ix_n, inb_n, u_eq, u_eqm, G1.1]
          exact nx _ _ (by rw [ye ⟨te.mpr ⟨z1, (by first | exact q | exact Classical.not_not.mp q), (by first | exact q2 | exact Classical.not_not.mp q2)⟩, z2⟩]; rfl)
        refine hP.1 _ _ s_Gf_fewestFor_23 _ _ _ _ _ ?_
        simp (maxSteps := 1000000) (disch := omega) only [g_Gf_fewestFor_23, slk, List.map_cons, List.map_nil, List.sum_cons, List.sum_nil, vc_i, vc_r, vc_n, vc_l, vc_o, Nat.add_zero, kO_e, kA_e, hdO_a, eq_self, blk, stp, lg, ls0, lk, ls1, ls2, kI_i, kL_l, kR_r, kR_n, kR_o, s1I_i, s2I_i, s1L_l, s2L_l, s1R_r, s1R_n, s1R_o, s1A_a, cmpc, popn, swt, rf_s, rf_n, cat_i, cat_r, cat_n, cat_l, true_and, and_true, List.length_cons, List.length_nil, Nat.zero_add, Int.reduceToNat, Nat.reduceAdd, Nat.reduceDiv, Nat.reduceMod, Nat.reduceMul, Nat.reduceSub, Nat.reduceLeDiff, Nat.reduceLT, Nat.reduceEqDiff, ↓reduceIte, r_gr_wi, r_gl_wi, r_gk_wi, r_gn_wi, r_wi_eq, r_wi_ne, r_wi_nj, r_gi_wr, r_gl_wr, r_gk_wr, r_gn_wr, r_gr_wa, r_gl_wa, r_gk_wa, r_gn_wa, aa_e, as_e, al_e, u_lt, u_le, u_gt, u_ge, u_lt0, u_le0, u_gt0, u_ge0, Classical.not_not, not_true_eq_false, not_false_eq_true, oi_n, oi_m, n_dec, nI_add, pk_mul, n_sub, n_eq, n_le, n_lt, n_eq0, n_lt0, n_le0, n_0lt, n_0le, n_eqm, m_eqn, n_ltm, n_and, n_or, n_xor, n_shl, n_shr, tb1, tb0, bP_1, bP_0, bP_n0, ix_n, inb_n, u_eq, u_eqm, n_andn, om]
        refine ⟨fun q => bad (fun z => q z.1), fun q => ?_⟩
        have q' : adN k (btN s m o (s 107 77)) = 0 := by first | exact q | exact Classical.not_not.mp q
        refine hP.1 _ _ s_Gf_fewestFor_32 _ _ _ _ _ ?_
        simp (maxSteps := 1000000) (disch := omega) only [g_Gf_fewestFor_32, slk, List.map_cons, List.map_nil, List.sum_cons, List.sum_nil, vc_i, vc_r, vc_n, vc_l, vc_o, Nat.add_zero, kO_e, kA_e, hdO_a, eq_self, blk, stp, lg, ls0, lk, ls1, ls2, kI_i, kL_l, kR_r, kR_n, kR_o, s1I_i, s2I_i, s1L_l, s2L_l, s1R_r, s1R_n, s1R_o, s1A_a, cmpc, popn, swt, rf_s, rf_n, cat_i, cat_r, cat_n, cat_l, true_and, and_true, List.length_cons, List.length_nil, Nat.zero_add, Int.reduceToNat, Nat.reduceAdd, Nat.reduceDiv, Nat.reduceMod, Nat.reduceMul, Nat.reduceSub, Nat.reduceLeDiff, Nat.reduceLT, Nat.reduceEqDiff, ↓reduceIte, r_gr_wi, r_gl_wi, r_gk_wi, r_gn_wi, r_wi_eq, r_wi_ne, r_wi_nj, r_gi_wr, r_gl_wr, r_gk_wr, r_gn_wr, r_gr_wa, r_gl_wa, r_gk_wa, r_gn_wa, aa_e, as_e, al_e, u_lt, u_le, u_gt, u_ge, u_lt0, u_le0, u_gt0, u_ge0, Classical.not_not, not_true_eq_false, not_false_eq_true, oi_n, oi_m, n_dec, nI_add, pk_mul, n_sub, n_eq, n_le, n_lt, n_eq0, n_lt0, n_le0, n_0lt, n_0le, n_eqm, m_eqn, n_ltm, n_and, n_or, n_xor, n_shl, n_shr, tb1, tb0, bP_1, bP_0, bP_n0, ix_n, inb_n, u_eq, u_eqm, n_andn, om]
        refine ⟨fun z => good q' (fun q e => by rw [z] at e; cases e), fun z => ?_⟩
        cases eb : mnG (fun g => trP s m o g) (fun a b => kyN a < kyN b) k with
        | none => exact absurd eb z
        | some q2 =>
          have q8 := bl q2 eb
          rw [eb] at good bad no ye
          have e3 : oN (some q2) = nI q2 := rfl
          rw [e3] at good bad ⊢
          refine hP.1 _ _ s_Gf_fewestFor_38 _ _ _ _ _ ?_
          simp (maxSteps := 1000000) (disch := omega) only [g_Gf_fewestFor_38, slk, List.map_cons, List.map_nil, List.sum_cons, List.sum_nil, vc_i, vc_r, vc_n, vc_l, vc_o, Nat.add_zero, kO_e, kA_e, hdO_a, eq_self, blk, stp, lg, ls0, lk, ls1, ls2, kI_i, kL_l, kR_r, kR_n, kR_o, s1I_i, s2I_i, s1L_l, s2L_l, s1R_r, s1R_n, s1R_o, s1A_a, cmpc, popn, swt, rf_s, rf_n, cat_i, cat_r, cat_n, cat_l, true_and, and_true, List.length_cons, List.length_nil, Nat.zero_add, Int.reduceToNat, Nat.reduceAdd, Nat.reduceDiv, Nat.reduceMod, Nat.reduceMul, Nat.reduceSub, Nat.reduceLeDiff, Nat.reduceLT, Nat.reduceEqDiff, ↓reduceIte, r_gr_wi, r_gl_wi, r_gk_wi, r_gn_wi, r_wi_eq, r_wi_ne, r_wi_nj, r_gi_wr, r_gl_wr, r_gk_wr, r_gn_wr, r_gr_wa, r_gl_wa, r_gk_wa, r_gn_wa, aa_e, as_e, al_e, u_lt, u_le, u_gt, u_ge, u_lt0, u_le0, u_gt0, u_ge0, Classical.not_not, not_true_eq_false, not_false_eq_true, oi_n, oi_m, n_dec, nI_add, pk_mul, n_sub, n_eq, n_le, n_lt, n_eq0, n_lt0, n_le0, n_0lt, n_0le, n_eqm, m_eqn, n_ltm, n_and, n_or, n_xor, n_shl, n_shr, tb1, tb0, bP_1, bP_0, bP_n0, ix_n, inb_n, u_eq, u_eqm, G1.1]
          refine wc (c_T_comesFirst (a := k) (b := q2) (by omega) (by omega)) ⟨by omega, by omega⟩ ?_
          simp (maxSteps := 1000000) (disch := omega) only [slk, List.map_cons, List.map_nil, List.sum_cons, List.sum_nil, vc_i, vc_r, vc_n, vc_l, vc_o, Nat.add_zero, kO_e, kA_e, hdO_a, eq_self, blk, stp, lg, ls0, lk, ls1, ls2, kI_i, kL_l, kR_r, kR_n, kR_o, s1I_i, s2I_i, s1L_l, s2L_l, s1R_r, s1R_n, s1R_o, s1A_a, cmpc, popn, swt, rf_s, rf_n, cat_i, cat_r, cat_n, cat_l, true_and, and_true, List.length_cons, List.length_nil, Nat.zero_add, Int.reduceToNat, Nat.reduceAdd, Nat.reduceDiv, Nat.reduceMod, Nat.reduceMul, Nat.reduceSub, Nat.reduceLeDiff, Nat.reduceLT, Nat.reduceEqDiff, ↓reduceIte, r_gr_wi, r_gl_wi, r_gk_wi, r_gn_wi, r_wi_eq, r_wi_ne, r_wi_nj, r_gi_wr, r_gl_wr, r_gk_wr, r_gn_wr, r_gr_wa, r_gl_wa, r_gk_wa, r_gn_wa, aa_e, as_e, al_e, u_lt, u_le, u_gt, u_ge, u_lt0, u_le0, u_gt0, u_ge0, Classical.not_not, not_true_eq_false, not_false_eq_true, oi_n, oi_m, n_dec, nI_add, pk_mul, n_sub, n_eq, n_le, n_lt, n_eq0, n_lt0, n_le0, n_0lt, n_0le, n_eqm, m_eqn, n_ltm, n_and, n_or, n_xor, n_shl, n_shr, tb1, tb0, bP_1, bP_0, bP_n0, ix_n, inb_n, u_eq, u_eqm, G1.1]
          refine ⟨fun z2 => bad (fun w => z2 (w.2 q2 rfl)), fun z2 => ?_⟩
          exact good q' (fun q e => by cases e; first | exact z2 | exact Classical.not_not.mp z2)
  exact loop _ 0 none (Nat.zero_add _)
end
