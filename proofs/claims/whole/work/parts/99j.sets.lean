/-! ===== the class's setters ===== -/
theorem n_T_heed : mN 4 = 4 := rfl
theorem l_T_heed : mL 4 = 4 := rfl
theorem r_T_heed : mR 4 = some .boolean := rfl
theorem n_T_hold : mN 6 = 6 := rfl
theorem l_T_hold : mL 6 = 7 := rfl
theorem r_T_hold : mR 6 = some .boolean := rfl
theorem n_T_care : mN 8 = 5 := rfl
theorem l_T_care : mL 8 = 6 := rfl
theorem r_T_care : mR 8 = some .boolean := rfl
theorem n_T_ground : mN 20 = 3 := rfl
theorem l_T_ground : mL 20 = 4 := rfl
theorem r_T_ground : mR 20 = some .boolean := rfl
theorem n_T_end : mN 13 = 2 := rfl
theorem l_T_end : mL 13 = 2 := rfl
theorem r_T_end : mR 13 = some .boolean := rfl
section
variable {h h' : AH} {s s' s0 : St} {bm : Nat → Nat} {c k : Nat} {x v : Int32} {p : Prop}
theorem lzT (hr : mR k = some .boolean) (hp : p) (F : FrC h h') (I : CI h' s' bm c) : rtok (mR k) (some (some (.int (nI 1)))) ∧ PC2 (bP p) (ifS p s' s0) h (some (some (.int (nI 1)))) h' := by
  rw [hr, bP_t hp, ifS_t hp]
  exact ⟨Or.inr rfl, rfl, F, bm, c, I⟩
theorem lzF (hr : mR k = some .boolean) (hp : ¬ p) (F : FrC h h') (I : CI h' s0 bm c) : rtok (mR k) (some (some (.int (nI 0)))) ∧ PC2 (bP p) (ifS p s' s0) h (some (some (.int (nI 0)))) h' := by
  rw [hr, bP_f hp, ifS_f hp]
  exact ⟨Or.inl rfl, rfl, F, bm, c, I⟩
theorem lzJ (hr : mR k = some .int) (hp : p) (e : x = v) (F : FrC h h') (I : CI h' s' bm c) : rtok (mR k) (some (some (.int x))) ∧ PC2 (iff1 p v) (ifS p s' s0) h (some (some (.int x))) h' := by
  rw [hr, e, iff1_t hp, ifS_t hp]
  exact ⟨trivial, rfl, F, bm, c, I⟩
theorem lzK (hr : mR k = some .int) (hp : ¬ p) (F : FrC h h') (I : CI h' s0 bm c) : rtok (mR k) (some (some (.int (-1)))) ∧ PC2 (iff1 p v) (ifS p s' s0) h (some (some (.int (-1)))) h' := by
  rw [hr, iff1_f hp, ifS_f hp]
  exact ⟨trivial, rfl, F, bm, c, I⟩
end
/-! what talks agree -/
theorem trI_c {s s' : St} {ed rs : Nat → Nat} {e m : Nat} : ∀ n, (∀ k, k < n → s' 145 k = s 145 k ∧ s' 146 k = s 146 k ∧ (s 146 k < m → (kpP s' ed rs k ↔ kpP s ed rs k))) → trI s' ed rs e m n = trI s ed rs e m n := by
  intro n
  induction n with
  | zero => exact fun _ => rfl
  | succ n ih =>
    intro h
    have i := ih (fun k hk => h k (by omega))
    obtain ⟨h1, h2, h3⟩ := h n (by omega)
    show @ite _ (s' 145 n = e ∧ s' 146 n < m) (Classical.propDecidable _) (trI s' ed rs e m n + @ite _ (kpP s' ed rs n) (Classical.propDecidable _) (nI 1) (-1)) (trI s' ed rs e m n) = @ite _ (s 145 n = e ∧ s 146 n < m) (Classical.propDecidable _) (trI s ed rs e m n + @ite _ (kpP s ed rs n) (Classical.propDecidable _) (nI 1) (-1)) (trI s ed rs e m n)
    rw [i, h1, h2]
    by_cases q : s 145 n = e ∧ s 146 n < m
    · rw [if_pos q, if_pos q, propext (h3 q.2)]
    · rw [if_neg q, if_neg q]
/-- talks that stand go on standing where they agree -/
theorem std_ag {h0 h h' : AH} {s s' : St} {bm bm' : Nat → Nat} {c : Nat} {X : Nat → Prop} {Y : Nat → Nat → Prop} (W : RH h0 s) (F : Fg X Y h h') (g : 164 < gn h) (hc : c ≤ s 107 19) (S : STD h s bm c) (h61 : s' 107 61 = s 107 61) (A : ∀ i, i < c → Ag s s' i) (hb : ∀ j, j < c → bm' j = bm j) (hx : ∀ j, j < c → ∀ a, X a → a < tOf j ∨ tOf j + 5 < a) (hy : ∀ j, j < c → ¬ Y (tOf j) 3) : STD h' s' bm' c := by
  have b0 := rs_m W
  intro j hj
  have T := F.st1 g (by omega) (S j hj) (hx j hj) (hy j hj)
  obtain ⟨e1, e2⟩ := ag_tk (s := s) (s' := s') (j := j) h61 (fun i hi => ⟨A i (by omega), by have := rs_p W (m := i) (by omega); omega, by have := rs_p W (m := i) (by omega); omega⟩)
  unfold ST1
  rw [e1, e2, hb j hj]
  exact T
theorem std_0 {h : AH} {s : St} {bm : Nat → Nat} : STD h s bm 0 := fun j hj => absurd hj (Nat.not_lt_zero _)
section
variable {h : AH} {s : St} {d c : Nat} {bm : Nat → Nat}
/-! heed -/
theorem ci_heed (W : RH h s) {h2 : AH} (I : CI h2 s bm c) {e o v : Nat} (hC : heedC s e o v) : CI (wi (wi h2 20 17 (nI (min c 0))) (24 + e) o (nI v)) (heedS s e o v) bm 0 := by
  have b1 := rs_e W
  have g := (ci_L I).2.2
  obtain ⟨q1, q2, q3, q4⟩ := hC
  obtain ⟨H, eH⟩ : ∃ H, H = wi (wi h2 20 17 (nI (min c 0))) (24 + e) o (nI v) := ⟨_, rfl⟩
  rw [← eH]
  have FB : Fg (fun a => a = 20 ∨ a = 24 + e) noY h2 H := by
    rw [eH]
    exact (((Fp.refl (fun a => a = 20 ∨ a = 24 + e) h2).wi (Or.inl rfl) _ _).wi (Or.inr rfl) _ _).fg
  obtain ⟨t1, t2, t3, t4, t5, t6⟩ := ci_ct I
  have e20 : ∀ k, k ≠ 17 → gi H 20 k = gi h2 20 k := fun k q => by
    rw [eH]
    simp (disch := omega) only [r_wi_ne, r_wi_nj]
  have e0 : gi H 20 17 = nI 0 := by
    rw [eH]
    simp (disch := omega) only [r_wi_ne, r_wi_eq]
    rw [show min c 0 = 0 by omega]
  obtain ⟨c1, c2, c3, c4, c5⟩ := ci_C I
  have pu := ci_pu I
  refine ⟨FB.lay (ci_L I) (fun a j y => by first | exact y.elim | (unfold isT; omega)), ⟨?_, ?_, ?_, ?_, ?_⟩, ⟨(e20 13 (by omega)).trans t1, (e20 14 (by omega)).trans t2, (e20 15 (by omega)).trans t3, (e20 16 (by omega)).trans t4, e0, Nat.zero_le _⟩, Fg.mt (s := s) FB g (ci_m I) (fun m hm => rs_law W hm) (fun m hm a q => by have := ci_b I hm; omega) (fun m hm a j y => by first | exact y.elim | (have := ci_b I hm; omega)) (fun j _ y => (by first | exact y.elim | omega)) (fun j _ y => (by first | exact y.elim | omega)), (show BO s bm from ci_bo I), Fg.txa (s := s) FB g (ci_tx I) (fun t ht a q => by have := isTx_b (ci_tx I) ht; omega) (fun t ht j y => by first | exact y.elim | (have := isTx_b (ci_tx I) ht; omega)) (fun j _ y => (by first | exact y.elim | omega)) (fun j _ y => (by first | exact y.elim | omega)), Fg.dj (s := s) FB g (ci_dj I) (fun j _ y => (by first | exact y.elim | omega)) (fun j _ y => (by first | exact y.elim | omega)), Fg.tpc (s := s) FB g (ci_tp I) ⟨fun q => by omega, fun q => by omega⟩, Fg.plc (s := s) FB g (ci_pl I) (fun a q => by omega), Fg.gfc (s := s) FB g (ci_gf I) (by rw [FB.2.2.1 61 (by omega) (fun q => by omega)]) (fun a q => by omega), Fg.asc (s := s) FB g (ci_as I) (fun a q => by omega), Fg.twc (s := s) FB g (ci_tw I) (fun a ha q => by have := ta_b ha; unfold isT at ha; omega), std_0, ⟨⟨pu.1.1, pu.1.2.1, fun e2 o2 z1 z2 z3 => ?_⟩, pu.2⟩⟩
  · rw [FB.2.2.1 21 (by omega) (fun q => by omega)]
    exact c1
  · rw [FB.2.2.1 22 (by omega) (fun q => by omega)]
    exact c2
  · intro e2 o2 he2 ho2
    show gi H (24 + e2) o2 = nI (uS s 109 (8 * e + o) v 109 (8 * e2 + o2))
    unfold uS
    rw [if_pos rfl, eH]
    by_cases z : e2 = e
    · subst z
      by_cases z2 : o2 = o
      · subst z2
        rw [r_wi_eq, if_pos rfl]
      · rw [r_wi_nj _ _ _ z2, r_wi_ne _ _ _ _ (by omega), if_neg (by omega)]
        exact c3 e2 o2 he2 ho2
    · rw [r_wi_ne _ _ _ _ (by omega), r_wi_ne _ _ _ _ (by omega), if_neg (by omega)]
      exact c3 e2 o2 he2 ho2
  · rw [FB.2.2.1 33 (by omega) (fun q => by omega)]
    exact c4
  · intro e2 he2
    show gr H 32 e2 = mdR H s e2
    rw [FB.2.2.2 32 e2 (by omega) (fun y => y.elim), c5 e2 he2]
    unfold mdR
    split
    · rename_i q
      rw [FB.2.2.2 41 _ (by omega) (fun y => y.elim)]
    · rfl
  · show uS s 109 (8 * e + o) v 109 (8 * e2 + o2) = 0
    unfold uS
    have z3' : s 107 18 ≤ e2 ∨ s 107 18 ≤ o2 ∨ e2 = o2 := z3
    rw [if_pos rfl, if_neg (by omega)]
    exact pu.1.2.2 e2 o2 z1 z2 z3
theorem c_T_heed (W : RH h s) {h2 : AH} (I : CI h2 s bm c) {e o v : Nat} (he : e < 4294967296) (ho : o < 4294967296) (hv : v < 4294967296) : Mz (d + 3) 4 [.ref 20, .int (nI e), .int (nI o), .int (nI v)] h2 0 0 (PC2 (bP (heedC s e o v)) (ifS (heedC s e o v) (heedS s e o v) s) h2) := by
  have b1 := rs_e W
  refine mz_in (l := [some (.ref 20), some (.int (nI e)), some (.int (nI o)), some (.int (nI v))]) mk_T_heed n_T_heed rfl l_T_heed rfl (Nat.le_of_ble_eq_true rfl) fun P hP => ?_
  have no : ¬ heedC s e o v → P 22 [some (.ref 20), some (.int (nI e)), some (.int (nI o)), some (.int (nI v))] [] h2 0 0 := by
    intro q
    refine hP.1 _ _ s_T_heed_22 _ _ _ _ _ ?_
    simp (maxSteps := 1000000) (disch := omega) only [g_T_heed_22, slk, List.map_cons, List.map_nil, List.sum_cons, List.sum_nil, vc_i, vc_r, vc_n, vc_l, vc_o, Nat.add_zero, kO_e, kA_e, hdO_a, eq_self, blk, stp, lg, ls0, lk, ls1, ls2, kI_i, kL_l, kR_r, kR_n, kR_o, s1I_i, s2I_i, s1L_l, s2L_l, s1R_r, s1R_n, s1R_o, s1A_a, cmpc, popn, swt, rf_s, rf_n, cat_i, cat_r, cat_n, cat_l, true_and, and_true, List.length_cons, List.length_nil, Nat.zero_add, Int.reduceToNat, Nat.reduceAdd, Nat.reduceDiv, Nat.reduceMod, Nat.reduceMul, Nat.reduceSub, Nat.reduceLeDiff, Nat.reduceLT, Nat.reduceEqDiff, ↓reduceIte, r_gr_wi, r_gl_wi, r_gk_wi, r_gn_wi, r_wi_eq, r_wi_ne, r_wi_nj, r_gi_wr, r_gl_wr, r_gk_wr, r_gn_wr, r_gr_wa, r_gl_wa, r_gk_wa, r_gn_wa, aa_e, as_e, al_e, u_lt, u_le, u_gt, u_ge, u_lt0, u_le0, u_gt0, u_ge0, Classical.not_not, not_true_eq_false, not_false_eq_true, oi_n, oi_m, n_dec, nI_add, pk_mul, n_sub, n_eq, n_le, n_lt, n_eq0, n_lt0, n_le0, n_0lt, n_0le, n_eqm, m_eqn, n_ltm, n_and, n_or, n_xor, n_shl, n_shr, tb1, tb0, bP_1, bP_0, bP_n0, ix_n, inb_n, u_eq, u_eqm]
    exact lzF r_T_heed q (FrC.refl _) I
  refine hP.1 _ _ s_T_heed_0 _ _ _ _ _ ?_
  simp (maxSteps := 1000000) (disch := omega) only [g_T_heed_0, slk, List.map_cons, List.map_nil, List.sum_cons, List.sum_nil, vc_i, vc_r, vc_n, vc_l, vc_o, Nat.add_zero, kO_e, kA_e, hdO_a, eq_self, blk, stp, lg, ls0, lk, ls1, ls2, kI_i, kL_l, kR_r, kR_n, kR_o, s1I_i, s2I_i, s1L_l, s2L_l, s1R_r, s1R_n, s1R_o, s1A_a, cmpc, popn, swt, rf_s, rf_n, cat_i, cat_r, cat_n, cat_l, true_and, and_true, List.length_cons, List.length_nil, Nat.zero_add, Int.reduceToNat, Nat.reduceAdd, Nat.reduceDiv, Nat.reduceMod, Nat.reduceMul, Nat.reduceSub, Nat.reduceLeDiff, Nat.reduceLT, Nat.reduceEqDiff, ↓reduceIte, r_gr_wi, r_gl_wi, r_gk_wi, r_gn_wi, r_wi_eq, r_wi_ne, r_wi_nj, r_gi_wr, r_gl_wr, r_gk_wr, r_gn_wr, r_gr_wa, r_gl_wa, r_gk_wa, r_gn_wa, aa_e, as_e, al_e, u_lt, u_le, u_gt, u_ge, u_lt0, u_le0, u_gt0, u_ge0, Classical.not_not, not_true_eq_false, not_false_eq_true, oi_n, oi_m, n_dec, nI_add, pk_mul, n_sub, n_eq, n_le, n_lt, n_eq0, n_lt0, n_le0, n_0lt, n_0le, n_eqm, m_eqn, n_ltm, n_and, n_or, n_xor, n_shl, n_shr, tb1, tb0, bP_1, bP_0, bP_n0, ix_n, inb_n, u_eq, u_eqm, k20 (ci_L I), f20_0 (ci_L I), k21 (ci_L I)]
  refine wc (c_Ci_hasTwo (ci_L I) (ci_C I).1.1 b1 he ho) ⟨by omega, by omega⟩ ?_
  simp (maxSteps := 1000000) (disch := omega) only [slk, List.map_cons, List.map_nil, List.sum_cons, List.sum_nil, vc_i, vc_r, vc_n, vc_l, vc_o, Nat.add_zero, kO_e, kA_e, hdO_a, eq_self, blk, stp, lg, ls0, lk, ls1, ls2, kI_i, kL_l, kR_r, kR_n, kR_o, s1I_i, s2I_i, s1L_l, s2L_l, s1R_r, s1R_n, s1R_o, s1A_a, cmpc, popn, swt, rf_s, rf_n, cat_i, cat_r, cat_n, cat_l, true_and, and_true, List.length_cons, List.length_nil, Nat.zero_add, Int.reduceToNat, Nat.reduceAdd, Nat.reduceDiv, Nat.reduceMod, Nat.reduceMul, Nat.reduceSub, Nat.reduceLeDiff, Nat.reduceLT, Nat.reduceEqDiff, ↓reduceIte, r_gr_wi, r_gl_wi, r_gk_wi, r_gn_wi, r_wi_eq, r_wi_ne, r_wi_nj, r_gi_wr, r_gl_wr, r_gk_wr, r_gn_wr, r_gr_wa, r_gl_wa, r_gk_wa, r_gn_wa, aa_e, as_e, al_e, u_lt, u_le, u_gt, u_ge, u_lt0, u_le0, u_gt0, u_ge0, Classical.not_not, not_true_eq_false, not_false_eq_true, oi_n, oi_m, n_dec, nI_add, pk_mul, n_sub, n_eq, n_le, n_lt, n_eq0, n_lt0, n_le0, n_0lt, n_0le, n_eqm, m_eqn, n_ltm, n_and, n_or, n_xor, n_shl, n_shr, tb1, tb0, bP_1, bP_0, bP_n0, ix_n, inb_n, u_eq, u_eqm, k20 (ci_L I), f20_0 (ci_L I), k21 (ci_L I)]
  refine ⟨fun z => no (fun y => z ⟨y.1, y.2.1, y.2.2.1⟩), fun z => ?_⟩
  have eo : e < s 107 18 ∧ o < s 107 18 ∧ ¬ e = o := by first | exact z | exact Classical.not_not.mp z | (simpa using z)
  rcases Nat.lt_or_ge v 2147483648 with v1 | v1
  · refine hP.1 _ _ s_T_heed_12 _ _ _ _ _ ?_
    simp (maxSteps := 1000000) (disch := omega) only [g_T_heed_12, slk, List.map_cons, List.map_nil, List.sum_cons, List.sum_nil, vc_i, vc_r, vc_n, vc_l, vc_o, Nat.add_zero, kO_e, kA_e, hdO_a, eq_self, blk, stp, lg, ls0, lk, ls1, ls2, kI_i, kL_l, kR_r, kR_n, kR_o, s1I_i, s2I_i, s1L_l, s2L_l, s1R_r, s1R_n, s1R_o, s1A_a, cmpc, popn, swt, rf_s, rf_n, cat_i, cat_r, cat_n, cat_l, true_and, and_true, List.length_cons, List.length_nil, Nat.zero_add, Int.reduceToNat, Nat.reduceAdd, Nat.reduceDiv, Nat.reduceMod, Nat.reduceMul, Nat.reduceSub, Nat.reduceLeDiff, Nat.reduceLT, Nat.reduceEqDiff, ↓reduceIte, r_gr_wi, r_gl_wi, r_gk_wi, r_gn_wi, r_wi_eq, r_wi_ne, r_wi_nj, r_gi_wr, r_gl_wr, r_gk_wr, r_gn_wr, r_gr_wa, r_gl_wa, r_gk_wa, r_gn_wa, aa_e, as_e, al_e, u_lt, u_le, u_gt, u_ge, u_lt0, u_le0, u_gt0, u_ge0, Classical.not_not, not_true_eq_false, not_false_eq_true, oi_n, oi_m, n_dec, nI_add, pk_mul, n_sub, n_eq, n_le, n_lt, n_eq0, n_lt0, n_le0, n_0lt, n_0le, n_eqm, m_eqn, n_ltm, n_and, n_or, n_xor, n_shl, n_shr, tb1, tb0, bP_1, bP_0, bP_n0, ix_n, inb_n, u_eq, u_eqm]
    refine ⟨fun z => (by first | exact z.elim | cases z | exact absurd rfl z | exact absurd trivial z | exact absurd id z | (exfalso; omega)), fun _ => ?_⟩
    refine hP.1 _ _ s_T_heed_16 _ _ _ _ _ ?_
    simp (maxSteps := 1000000) (disch := omega) only [g_T_heed_16, slk, List.map_cons, List.map_nil, List.sum_cons, List.sum_nil, vc_i, vc_r, vc_n, vc_l, vc_o, Nat.add_zero, kO_e, kA_e, hdO_a, eq_self, blk, stp, lg, ls0, lk, ls1, ls2, kI_i, kL_l, kR_r, kR_n, kR_o, s1I_i, s2I_i, s1L_l, s2L_l, s1R_r, s1R_n, s1R_o, s1A_a, cmpc, popn, swt, rf_s, rf_n, cat_i, cat_r, cat_n, cat_l, true_and, and_true, List.length_cons, List.length_nil, Nat.zero_add, Int.reduceToNat, Nat.reduceAdd, Nat.reduceDiv, Nat.reduceMod, Nat.reduceMul, Nat.reduceSub, Nat.reduceLeDiff, Nat.reduceLT, Nat.reduceEqDiff, ↓reduceIte, r_gr_wi, r_gl_wi, r_gk_wi, r_gn_wi, r_wi_eq, r_wi_ne, r_wi_nj, r_gi_wr, r_gl_wr, r_gk_wr, r_gn_wr, r_gr_wa, r_gl_wa, r_gk_wa, r_gn_wa, aa_e, as_e, al_e, u_lt, u_le, u_gt, u_ge, u_lt0, u_le0, u_gt0, u_ge0, Classical.not_not, not_true_eq_false, not_false_eq_true, oi_n, oi_m, n_dec, nI_add, pk_mul, n_sub, n_eq, n_le, n_lt, n_eq0, n_lt0, n_le0, n_0lt, n_0le, n_eqm, m_eqn, n_ltm, n_and, n_or, n_xor, n_shl, n_shr, tb1, tb0, bP_1, bP_0, bP_n0, ix_n, inb_n, u_eq, u_eqm]
    refine ⟨fun z => ?_, fun z => no (fun y => by have := y.2.2.2; omega)⟩
    have hC : heedC s e o v := ⟨eo.1, eo.2.1, eo.2.2, by omega⟩
    have f2 := f23 (ci_L I) (e := e) (by omega)
    have t20 : 20 ≤ 24 + e := by omega
    refine hP.1 _ _ s_T_heed_24 _ _ _ _ _ ?_
    simp (maxSteps := 1000000) (disch := omega) only [g_T_heed_24, slk, List.map_cons, List.map_nil, List.sum_cons, List.sum_nil, vc_i, vc_r, vc_n, vc_l, vc_o, Nat.add_zero, kO_e, kA_e, hdO_a, eq_self, blk, stp, lg, ls0, lk, ls1, ls2, kI_i, kL_l, kR_r, kR_n, kR_o, s1I_i, s2I_i, s1L_l, s2L_l, s1R_r, s1R_n, s1R_o, s1A_a, cmpc, popn, swt, rf_s, rf_n, cat_i, cat_r, cat_n, cat_l, true_and, and_true, List.length_cons, List.length_nil, Nat.zero_add, Int.reduceToNat, Nat.reduceAdd, Nat.reduceDiv, Nat.reduceMod, Nat.reduceMul, Nat.reduceSub, Nat.reduceLeDiff, Nat.reduceLT, Nat.reduceEqDiff, ↓reduceIte, r_gr_wi, r_gl_wi, r_gk_wi, r_gn_wi, r_wi_eq, r_wi_ne, r_wi_nj, r_gi_wr, r_gl_wr, r_gk_wr, r_gn_wr, r_gr_wa, r_gl_wa, r_gk_wa, r_gn_wa, aa_e, as_e, al_e, u_lt, u_le, u_gt, u_ge, u_lt0, u_le0, u_gt0, u_ge0, Classical.not_not, not_true_eq_false, not_false_eq_true, oi_n, oi_m, n_dec, nI_add, pk_mul, n_sub, n_eq, n_le, n_lt, n_eq0, n_lt0, n_le0, n_0lt, n_0le, n_eqm, m_eqn, n_ltm, n_and, n_or, n_xor, n_shl, n_shr, tb1, tb0, bP_1, bP_0, bP_n0, ix_n, inb_n, u_eq, u_eqm, k20 (ci_L I), f20_0 (ci_L I), k21 (ci_L I), f21_1 (ci_L I), k23 (ci_L I), f2.1, f2.2, k23 (ci_L I), t20]
    refine wcv (c_T_unsettleFrom W I (m := 0) (by omega)) ⟨by omega, by omega⟩ ?_
    simp (maxSteps := 1000000) (disch := omega) only [slk, List.map_cons, List.map_nil, List.sum_cons, List.sum_nil, vc_i, vc_r, vc_n, vc_l, vc_o, Nat.add_zero, kO_e, kA_e, hdO_a, eq_self, blk, stp, lg, ls0, lk, ls1, ls2, kI_i, kL_l, kR_r, kR_n, kR_o, s1I_i, s2I_i, s1L_l, s2L_l, s1R_r, s1R_n, s1R_o, s1A_a, cmpc, popn, swt, rf_s, rf_n, cat_i, cat_r, cat_n, cat_l, true_and, and_true, List.length_cons, List.length_nil, Nat.zero_add, Int.reduceToNat, Nat.reduceAdd, Nat.reduceDiv, Nat.reduceMod, Nat.reduceMul, Nat.reduceSub, Nat.reduceLeDiff, Nat.reduceLT, Nat.reduceEqDiff, ↓reduceIte, r_gr_wi, r_gl_wi, r_gk_wi, r_gn_wi, r_wi_eq, r_wi_ne, r_wi_nj, r_gi_wr, r_gl_wr, r_gk_wr, r_gn_wr, r_gr_wa, r_gl_wa, r_gk_wa, r_gn_wa, aa_e, as_e, al_e, u_lt, u_le, u_gt, u_ge, u_lt0, u_le0, u_gt0, u_ge0, Classical.not_not, not_true_eq_false, not_false_eq_true, oi_n, oi_m, n_dec, nI_add, pk_mul, n_sub, n_eq, n_le, n_lt, n_eq0, n_lt0, n_le0, n_0lt, n_0le, n_eqm, m_eqn, n_ltm, n_and, n_or, n_xor, n_shl, n_shr, tb1, tb0, bP_1, bP_0, bP_n0, ix_n, inb_n, u_eq, u_eqm, k20 (ci_L I), f20_0 (ci_L I), k21 (ci_L I), f21_1 (ci_L I), k23 (ci_L I), f2.1, f2.2, k23 (ci_L I), t20]
    have g := (ci_L I).2.2
    refine lzT r_T_heed hC ?_ (ci_heed W I hC)
    exact frc_fp (((Fp.refl (fun a => a = 20 ∨ a = 24 + e) h2).wi (Or.inl rfl) _ _).wi (Or.inr rfl) _ _) g (fun a q => by have q2 : a = 20 ∨ a = 24 + e := q; unfold clR; omega)
  · refine hP.1 _ _ s_T_heed_12 _ _ _ _ _ ?_
    simp (maxSteps := 1000000) (disch := omega) only [g_T_heed_12, slk, List.map_cons, List.map_nil, List.sum_cons, List.sum_nil, vc_i, vc_r, vc_n, vc_l, vc_o, Nat.add_zero, kO_e, kA_e, hdO_a, eq_self, blk, stp, lg, ls0, lk, ls1, ls2, kI_i, kL_l, kR_r, kR_n, kR_o, s1I_i, s2I_i, s1L_l, s2L_l, s1R_r, s1R_n, s1R_o, s1A_a, cmpc, popn, swt, rf_s, rf_n, cat_i, cat_r, cat_n, cat_l, true_and, and_true, List.length_cons, List.length_nil, Nat.zero_add, Int.reduceToNat, Nat.reduceAdd, Nat.reduceDiv, Nat.reduceMod, Nat.reduceMul, Nat.reduceSub, Nat.reduceLeDiff, Nat.reduceLT, Nat.reduceEqDiff, ↓reduceIte, r_gr_wi, r_gl_wi, r_gk_wi, r_gn_wi, r_wi_eq, r_wi_ne, r_wi_nj, r_gi_wr, r_gl_wr, r_gk_wr, r_gn_wr, r_gr_wa, r_gl_wa, r_gk_wa, r_gn_wa, aa_e, as_e, al_e, u_lt, u_le, u_gt, u_ge, u_lt0, u_le0, u_gt0, u_ge0, Classical.not_not, not_true_eq_false, not_false_eq_true, oi_n, oi_m, n_dec, nI_add, pk_mul, n_sub, n_eq, n_le, n_lt, n_eq0, n_lt0, n_le0, n_0lt, n_0le, n_eqm, m_eqn, n_ltm, n_and, n_or, n_xor, n_shl, n_shr, tb1, tb0, bP_1, bP_0, bP_n0, ix_n, inb_n, u_eq, u_eqm]
    exact ⟨fun _ => no (fun y => by have := y.2.2.2; omega), fun z => (by first | exact z.elim | cases z | exact absurd rfl z | exact absurd trivial z | exact absurd id z | (exfalso; omega))⟩
end
