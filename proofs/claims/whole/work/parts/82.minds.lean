/-! ===== the reference: minds that may be one's ===== -/
theorem n_R_minds : mN 144 = 3 := rfl
theorem l_R_minds : mL 144 = 8 := rfl
theorem r_R_minds : mR 144 = some .int := rfl
theorem stD_lk (s : St) (m day e : Nat) (x : Ds) (res : Option (Nat × Nat)) (lk : List Lk) : (stD s m day e x res lk).2.2.2 = x.2.2.2 ++ lk := by
  cases res with
  | none => rfl
  | some q =>
    obtain ⟨p, i⟩ := q
    rfl
theorem lkF_b {s : St} {ws : List Wd} {g : Nat} {tr : Int32} {e m day ahead today : Nat} : ∀ n p, ∀ x ∈ lkF s ws g tr e m day ahead today n p, x.2 ≤ 3 := by
  intro n
  induction n with
  | zero => intro p x hx; cases hx
  | succ n ih =>
    intro p x hx
    have hx2 : x ∈ lkC s ws g tr e m day ahead today p :: @ite _ (noP s ws g tr e m day ahead today p) (Classical.propDecidable _) [] (lkF s ws g tr e m day ahead today n (p + 1)) := hx
    rcases List.mem_cons.mp hx2 with q | q
    · rw [q]
      exact Nat.add_le_add (nif_le (c := 2) (by omega) (by omega)) (nif_le (c := 1) (by omega) (by omega))
    · by_cases c : noP s ws g tr e m day ahead today p
      · rw [if_pos c] at q
        cases q
      · rw [if_neg c] at q
        exact ih _ _ q
theorem dyS_b {s : St} {ed rs : Nat → Nat} {m day : Nat} {x : Ds} (hx : ∀ y ∈ x.2.2.2, y.2 ≤ 3) : ∀ k, ∀ y ∈ (dyS s ed rs m day x k).2.2.2, y.2 ≤ 3 := by
  intro k
  induction k with
  | zero => exact hx
  | succ k ih =>
    intro y hy
    have e : (dyS s ed rs m day x (k + 1)).2.2.2 = _ := stD_lk s m day (sd s k) (dyS s ed rs m day x k) _ _
    rw [e] at hy
    rcases List.mem_append.mp hy with q | q
    · exact ih y q
    · unfold lkS at q
      by_cases c : msP s m (dyS s ed rs m day x k).1 (sd s k) day k (dyS s ed rs m day x k).2.2.1 ∧ sd s k = s 107 61
      · rw [ifO_t c] at q
        exact lkF_b _ _ y q
      · rw [ifO_f c] at q
        cases q
theorem dE_b {s : St} {ed rs : Nat → Nat} {m : Nat} : ∀ j, ∀ y ∈ (dE s ed rs m [] j).2.2.2, y.2 ≤ 3 := by
  intro j
  induction j with
  | zero => intro y hy; cases hy
  | succ j ih => exact dyS_b ih _
def mdX (s : St) (x : Lk) (k : Nat) : Prop := wnP (wtS s true (ltF x.1) (8 + k) 110) (1 < x.2) ↔ x.2 % 2 = 1
def mdQ (s : St) (L : List Lk) (k n : Nat) : Prop := ∀ l, l < n → mdX s (L.getD l l0) k
noncomputable def mdL (s : St) (e m : Nat) : List Lk := (tkD (uS s 107 61 e) m).2.2.2
noncomputable def mdN (s : St) (e m n : Nat) : Nat := orN n (fun k => nif (mdQ s (mdL s e m) k (mdL s e m).length) (1 <<< k) 0)
theorem mdQ_s {s : St} {L : List Lk} {k n : Nat} {t : Prop} (h : t ↔ mdX s (L.getD n l0) k) (hq : mdQ s L k n) : t ↔ mdQ s L k (n + 1) := by
  refine ⟨fun q l hl => ?_, fun q => h.mpr (q n (by omega))⟩
  by_cases e : l = n
  · rw [e]
    exact h.mp q
  · exact hq l (by omega)
theorem rem2 : ∀ a, a ≤ 3 → nI a - nI a / nI 2 * nI 2 = nI (a % 2) := by decide
theorem told_ne : ∀ i, i < 10 → ∀ j, j < i → (strN 4).getD j 0 ≠ (strN 4).getD i 0 := by decide +kernel
theorem told_al : ∀ c, (als true).contains c = true → ∃ j, j < 10 ∧ (strN 4).getD j 0 = c := by
  intro c h
  have h2 := List.contains_iff_mem.mp h
  have e4 : strN 4 = [104, 101, 111, 116, 107, 97, 113, 119, 103, 102] := by decide +kernel
  rw [e4]
  clear h
  revert c
  decide
section
variable {h : AH} {s : St} {d : Nat}
theorem c_R_minds (W : RH h s) (K : SK h) (TT : TO s) (h61 : s 107 61 = 4294967295) (h22 : s 107 22 = 0) {e m : Nat} (he : e < 4294967296) (hm : m < 4294967296) : Mz (d + 38) 144 [.ref 107, .int (nI e), .int (nI m)] h 0 0 (Pb (iff1 (e < s 107 18 ∧ m < s 107 19) (nI (mdN s e m (s 107 30)))) s h) := by
  have W1 := (pre1 W).1
  have b1 := rs_e W
  have b2 := rs_m W
  have b3 := rs_minds W
  refine mz_in (l := [some (.ref 107), some (.int (nI e)), some (.int (nI m)), none, none, none, none, none]) mk_R_minds n_R_minds rfl l_R_minds rfl (Nat.le_of_ble_eq_true rfl) fun P hP => ?_
  have bad : ¬ (e < s 107 18 ∧ m < s 107 19) → P 21 [some (.ref 107), some (.int (nI e)), some (.int (nI m)), none, none, none, none, none] [] (wi h 107 0 (nI 0)) 0 0 := by
    intro a
    refine hP.1 _ _ s_R_minds_21 _ _ _ _ _ ?_
    simp (maxSteps := 1000000) (disch := omega) only [g_R_minds_21, slk, List.map_cons, List.map_nil, List.sum_cons, List.sum_nil, vc_i, vc_r, vc_n, vc_l, vc_o, Nat.add_zero, kO_e, kA_e, hdO_a, eq_self, blk, stp, lg, ls0, lk, ls1, ls2, kI_i, kL_l, kR_r, kR_n, kR_o, s1I_i, s2I_i, s1L_l, s2L_l, s1R_r, s1R_n, s1R_o, s1A_a, cmpc, popn, swt, rf_s, rf_n, cat_i, cat_r, cat_n, cat_l, true_and, and_true, List.length_cons, List.length_nil, Nat.zero_add, Int.reduceToNat, Nat.reduceAdd, Nat.reduceDiv, Nat.reduceMod, Nat.reduceMul, Nat.reduceSub, Nat.reduceLeDiff, Nat.reduceLT, Nat.reduceEqDiff, ↓reduceIte, r_gr_wi, r_gl_wi, r_gk_wi, r_gn_wi, r_wi_eq, r_wi_ne, r_wi_nj, r_gi_wr, r_gl_wr, r_gk_wr, r_gn_wr, r_gr_wa, r_gl_wa, r_gk_wa, r_gn_wa, aa_e, as_e, al_e, u_lt, u_le, u_gt, u_ge, u_lt0, u_le0, u_gt0, u_ge0, Classical.not_not, not_true_eq_false, not_false_eq_true, oi_n, oi_m, n_dec, nI_add, pk_mul, n_sub, n_eq, n_le, n_lt, n_eq0, n_lt0, n_le0, n_0lt, n_0le, n_eqm, m_eqn, n_ltm, n_and, n_or, n_xor, n_shl, n_shr, tb1, tb0, bP_1, bP_0, bP_n0, ix_n, inb_n, u_eq, u_eqm, n1_1, true_or, or_true, u_eqm]
    exact lfPI r_R_minds (iff1_f a).symm W1 (pre1 W).2
  have good : e < s 107 18 ∧ m < s 107 19 → P 23 [some (.ref 107), some (.int (nI e)), some (.int (nI m)), none, none, none, none, none] [] (wi h 107 0 (nI 0)) 0 0 := by
    intro c
    have Wa : RH (wi (wi h 107 0 (nI 0)) 107 61 (nI e)) (uS s 107 61 e) := ⟨W1.1, rc_set W1.2.1 (by decide), rs_w W.2.2 e⟩
    have Ka : SK (wi (wi h 107 0 (nI 0)) 107 61 (nI e)) := (((Fx.refl [0, 61] [] h).wi _ rfl).wi _ rfl).sk K rfl
    have Fa : FrR h (wi (wi h 107 0 (nI 0)) 107 61 (nI e)) := fr_wi (pre1 W).2 (by omega)
    have TTa : TO (uS s 107 61 e) := TT
    have e8 : uS s 107 61 e 107 61 < 4294967296 := by
      show e < 4294967296
      omega
    have g := c_R_talkOf (d := d) Wa Ka TTa (m := m) c.2 e8 h22
    have tb := tlS_b (ed := eB (uS s 107 61 e) m) (rs := rB (uS s 107 61 e) m) (m := m) (ls := []) Wa
    have dok := dE_ok (ed := eB (uS s 107 61 e) m) (rs := rB (uS s 107 61 e) m) (ls := []) Wa (m := m) c.2 _ tb.1
    have lb := dok.2.2.2
    have lb3 : ∀ y ∈ mdL s e m, y.2 ≤ 3 := dE_b (s := uS s 107 61 e) (ed := eB (uS s 107 61 e) m) (rs := rB (uS s 107 61 e) m) (m := m) (tkE (uS s 107 61 e) m).1
    have lbl : (mdL s e m).length ≤ 1200 := by
      have e0 : (mdL s e m).length ≤ [].length + 5 * (8 * (tkE (uS s 107 61 e) m).1) := lb
      have e1 : (tkE (uS s 107 61 e) m).1 ≤ 30 := tb.1
      simp only [List.length_nil] at e0
      omega
    refine hP.1 _ _ s_R_minds_23 _ _ _ _ _ ?_
    simp (maxSteps := 1000000) (disch := omega) only [g_R_minds_23, slk, List.map_cons, List.map_nil, List.sum_cons, List.sum_nil, vc_i, vc_r, vc_n, vc_l, vc_o, Nat.add_zero, kO_e, kA_e, hdO_a, eq_self, blk, stp, lg, ls0, lk, ls1, ls2, kI_i, kL_l, kR_r, kR_n, kR_o, s1I_i, s2I_i, s1L_l, s2L_l, s1R_r, s1R_n, s1R_o, s1A_a, cmpc, popn, swt, rf_s, rf_n, cat_i, cat_r, cat_n, cat_l, true_and, and_true, List.length_cons, List.length_nil, Nat.zero_add, Int.reduceToNat, Nat.reduceAdd, Nat.reduceDiv, Nat.reduceMod, Nat.reduceMul, Nat.reduceSub, Nat.reduceLeDiff, Nat.reduceLT, Nat.reduceEqDiff, ↓reduceIte, r_gr_wi, r_gl_wi, r_gk_wi, r_gn_wi, r_wi_eq, r_wi_ne, r_wi_nj, r_gi_wr, r_gl_wr, r_gk_wr, r_gn_wr, r_gr_wa, r_gl_wa, r_gk_wa, r_gn_wa, aa_e, as_e, al_e, u_lt, u_le, u_gt, u_ge, u_lt0, u_le0, u_gt0, u_ge0, Classical.not_not, not_true_eq_false, not_false_eq_true, oi_n, oi_m, n_dec, nI_add, pk_mul, n_sub, n_eq, n_le, n_lt, n_eq0, n_lt0, n_le0, n_0lt, n_0le, n_eqm, m_eqn, n_ltm, n_and, n_or, n_xor, n_shl, n_shr, tb1, tb0, bP_1, bP_0, bP_n0, ix_n, inb_n, u_eq, u_eqm, k107 W.1, n1_1, true_or, or_true, u_eqm]
    refine ⟨_, _, _, g, ⟨by omega, by omega⟩, ?_⟩
    rintro r H0 ⟨rfl, F2, W2, S2, K2, E2, eD, T2, L2⟩
    have Fb : Fx [61] [] H0 (wi H0 107 61 (-1)) := (Fx.refl _ _ _).wi _ rfl
    have Wb : RH (wi H0 107 61 (-1)) s := by
      have := rc_setm W2.2.1 (a := 107) (k := 61) (by decide)
      have e0 : uS (uS s 107 61 e) 107 61 4294967295 = s := by
        funext b j
        unfold uS
        by_cases q : b = 107
        · subst q
          by_cases q2 : j = 61
          · subst q2
            rw [if_pos rfl, if_pos rfl]
            exact h61.symm
          · rw [if_pos rfl, if_neg q2, if_pos rfl, if_neg q2]
        · rw [if_neg q, if_neg q]
      rw [e0] at this
      exact ⟨Fb.lay W2.1, this, W.2.2⟩
    have Kb := Fb.sk K2 rfl
    have Lb : LKs (wi H0 107 61 (-1)) (mdL s e m) := Fb.ft.lks L2 rfl (fun _ => rfl)
    have Fc : FrR h (wi H0 107 61 (-1)) := fr_wi (Fa.trans F2.1) (by omega)
    simp (maxSteps := 1000000) (disch := omega) only [slk, List.map_cons, List.map_nil, List.sum_cons, List.sum_nil, vc_i, vc_r, vc_n, vc_l, vc_o, Nat.add_zero, kO_e, kA_e, hdO_a, eq_self, blk, stp, lg, ls0, lk, ls1, ls2, kI_i, kL_l, kR_r, kR_n, kR_o, s1I_i, s2I_i, s1L_l, s2L_l, s1R_r, s1R_n, s1R_o, s1A_a, cmpc, popn, swt, rf_s, rf_n, cat_i, cat_r, cat_n, cat_l, true_and, and_true, List.length_cons, List.length_nil, Nat.zero_add, Int.reduceToNat, Nat.reduceAdd, Nat.reduceDiv, Nat.reduceMod, Nat.reduceMul, Nat.reduceSub, Nat.reduceLeDiff, Nat.reduceLT, Nat.reduceEqDiff, ↓reduceIte, r_gr_wi, r_gl_wi, r_gk_wi, r_gn_wi, r_wi_eq, r_wi_ne, r_wi_nj, r_gi_wr, r_gl_wr, r_gk_wr, r_gn_wr, r_gr_wa, r_gl_wa, r_gk_wa, r_gn_wa, aa_e, as_e, al_e, u_lt, u_le, u_gt, u_ge, u_lt0, u_le0, u_gt0, u_ge0, Classical.not_not, not_true_eq_false, not_false_eq_true, oi_n, oi_m, n_dec, nI_add, pk_mul, n_sub, n_eq, n_le, n_lt, n_eq0, n_lt0, n_le0, n_0lt, n_0le, n_eqm, m_eqn, n_ltm, n_and, n_or, n_xor, n_shl, n_shr, tb1, tb0, bP_1, bP_0, bP_n0, ix_n, inb_n, u_eq, u_eqm, k107 W.1, n1_1, true_or, or_true, u_eqm, k107 W2.1]
    clear g tb dok lb L2 T2 eD E2 S2
    unfold mdN at hP
    generalize wi H0 107 61 (-1) = Hb at Wb Kb Lb Fc ⊢
    generalize mdL s e m = L at lb3 lbl Lb hP
    have outer : ∀ n k, k + n = s 107 30 → ∀ H x5 x6 x7, Ft [31, 32, 33, 34, 35, 36, 37, 40] [128] Hb H → P 43 [some (.ref 107), some (.int (nI e)), some (.int (nI m)), some (.int (nI (orN k (fun k => nif (mdQ s L k L.length) (1 <<< k) 0)))), some (.int (nI k)), x5, x6, x7] [] H 0 0 := by
      intro n
      induction n using Nat.strongRecOn with
      | _ n ih =>
        intro k hk H x5 x6 x7 FF
        have WH := FF.rw Wb rfl
        have KH := FF.sk Kb rfl
        refine hP.1 _ _ s_R_minds_43 _ _ _ _ _ ?_
        simp (maxSteps := 1000000) (disch := omega) only [g_R_minds_43, slk, List.map_cons, List.map_nil, List.sum_cons, List.sum_nil, vc_i, vc_r, vc_n, vc_l, vc_o, Nat.add_zero, kO_e, kA_e, hdO_a, eq_self, blk, stp, lg, ls0, lk, ls1, ls2, kI_i, kL_l, kR_r, kR_n, kR_o, s1I_i, s2I_i, s1L_l, s2L_l, s1R_r, s1R_n, s1R_o, s1A_a, cmpc, popn, swt, rf_s, rf_n, cat_i, cat_r, cat_n, cat_l, true_and, and_true, List.length_cons, List.length_nil, Nat.zero_add, Int.reduceToNat, Nat.reduceAdd, Nat.reduceDiv, Nat.reduceMod, Nat.reduceMul, Nat.reduceSub, Nat.reduceLeDiff, Nat.reduceLT, Nat.reduceEqDiff, ↓reduceIte, r_gr_wi, r_gl_wi, r_gk_wi, r_gn_wi, r_wi_eq, r_wi_ne, r_wi_nj, r_gi_wr, r_gl_wr, r_gk_wr, r_gn_wr, r_gr_wa, r_gl_wa, r_gk_wa, r_gn_wa, aa_e, as_e, al_e, u_lt, u_le, u_gt, u_ge, u_lt0, u_le0, u_gt0, u_ge0, Classical.not_not, not_true_eq_false, not_false_eq_true, oi_n, oi_m, n_dec, nI_add, pk_mul, n_sub, n_eq, n_le, n_lt, n_eq0, n_lt0, n_le0, n_0lt, n_0le, n_eqm, m_eqn, n_ltm, n_and, n_or, n_xor, n_shl, n_shr, tb1, tb0, bP_1, bP_0, bP_n0, ix_n, inb_n, u_eq, u_eqm, k107 WH.1, q107_30 WH, n1_1, true_or, or_true, u_eqm]
        refine ⟨fun hc => ?_, fun hc => ?_⟩
        · have e1 : k = s 107 30 := by omega
          subst e1
          refine hP.1 _ _ s_R_minds_229 _ _ _ _ _ ?_
          simp (maxSteps := 1000000) (disch := omega) only [g_R_minds_229, slk, List.map_cons, List.map_nil, List.sum_cons, List.sum_nil, vc_i, vc_r, vc_n, vc_l, vc_o, Nat.add_zero, kO_e, kA_e, hdO_a, eq_self, blk, stp, lg, ls0, lk, ls1, ls2, kI_i, kL_l, kR_r, kR_n, kR_o, s1I_i, s2I_i, s1L_l, s2L_l, s1R_r, s1R_n, s1R_o, s1A_a, cmpc, popn, swt, rf_s, rf_n, cat_i, cat_r, cat_n, cat_l, true_and, and_true, List.length_cons, List.length_nil, Nat.zero_add, Int.reduceToNat, Nat.reduceAdd, Nat.reduceDiv, Nat.reduceMod, Nat.reduceMul, Nat.reduceSub, Nat.reduceLeDiff, Nat.reduceLT, Nat.reduceEqDiff, ↓reduceIte, r_gr_wi, r_gl_wi, r_gk_wi, r_gn_wi, r_wi_eq, r_wi_ne, r_wi_nj, r_gi_wr, r_gl_wr, r_gk_wr, r_gn_wr, r_gr_wa, r_gl_wa, r_gk_wa, r_gn_wa, aa_e, as_e, al_e, u_lt, u_le, u_gt, u_ge, u_lt0, u_le0, u_gt0, u_ge0, Classical.not_not, not_true_eq_false, not_false_eq_true, oi_n, oi_m, n_dec, nI_add, pk_mul, n_sub, n_eq, n_le, n_lt, n_eq0, n_lt0, n_le0, n_0lt, n_0le, n_eqm, m_eqn, n_ltm, n_and, n_or, n_xor, n_shl, n_shr, tb1, tb0, bP_1, bP_0, bP_n0, ix_n, inb_n, u_eq, u_eqm, n1_1, true_or, or_true, u_eqm]
          exact lfPI r_R_minds (iff1_t c).symm WH (Fc.trans (FF.fr rfl))
        have hk2 : k < s 107 30 := by omega
        have ob : orN k (fun k => nif (mdQ s L k L.length) (1 <<< k) 0) < 2 ^ 8 := orN_lt (fun j hj => by
          by_cases q : mdQ s L j L.length
          · rw [nif_t q]
            exact one_lt (by omega)
          · rw [nif_f q]
            decide)
        have en : ∀ (t : Prop) H (l : Nat) x7, (t ↔ mdQ s L k L.length) → Ft [31, 32, 33, 34, 35, 36, 37, 40] [128] Hb H → P 207 [some (.ref 107), some (.int (nI e)), some (.int (nI m)), some (.int (nI (orN k (fun k => nif (mdQ s L k L.length) (1 <<< k) 0)))), some (.int (nI k)), some (.int (bP t)), some (.int (nI l)), x7] [] H 0 0 := by
          intro t H l x7 ht FF
          have nx : ∀ y, y = nif (mdQ s L k L.length) (1 <<< k) 0 → P 221 [some (.ref 107), some (.int (nI e)), some (.int (nI m)), some (.int (nI (orN k (fun k => nif (mdQ s L k L.length) (1 <<< k) 0)))), some (.int (nI k)), some (.int (bP t)), some (.int (nI l)), x7] [.int (nI y), .int (nI (orN k (fun k => nif (mdQ s L k L.length) (1 <<< k) 0)))] H 0 0 := by
            intro y ey
            refine hP.1 _ _ s_R_minds_221 _ _ _ _ _ ?_
            simp (maxSteps := 1000000) (disch := omega) only [g_R_minds_221, slk, List.map_cons, List.map_nil, List.sum_cons, List.sum_nil, vc_i, vc_r, vc_n, vc_l, vc_o, Nat.add_zero, kO_e, kA_e, hdO_a, eq_self, blk, stp, lg, ls0, lk, ls1, ls2, kI_i, kL_l, kR_r, kR_n, kR_o, s1I_i, s2I_i, s1L_l, s2L_l, s1R_r, s1R_n, s1R_o, s1A_a, cmpc, popn, swt, rf_s, rf_n, cat_i, cat_r, cat_n, cat_l, true_and, and_true, List.length_cons, List.length_nil, Nat.zero_add, Int.reduceToNat, Nat.reduceAdd, Nat.reduceDiv, Nat.reduceMod, Nat.reduceMul, Nat.reduceSub, Nat.reduceLeDiff, Nat.reduceLT, Nat.reduceEqDiff, ↓reduceIte, r_gr_wi, r_gl_wi, r_gk_wi, r_gn_wi, r_wi_eq, r_wi_ne, r_wi_nj, r_gi_wr, r_gl_wr, r_gk_wr, r_gn_wr, r_gr_wa, r_gl_wa, r_gk_wa, r_gn_wa, aa_e, as_e, al_e, u_lt, u_le, u_gt, u_ge, u_lt0, u_le0, u_gt0, u_ge0, Classical.not_not, not_true_eq_false, not_false_eq_true, oi_n, oi_m, n_dec, nI_add, pk_mul, n_sub, n_eq, n_le, n_lt, n_eq0, n_lt0, n_le0, n_0lt, n_0le, n_eqm, m_eqn, n_ltm, n_and, n_or, n_xor, n_shl, n_shr, tb1, tb0, bP_1, bP_0, bP_n0, ix_n, inb_n, u_eq, u_eqm, n1_1, true_or, or_true, u_eqm]
            rw [ey]
            exact ih (n - 1) (by omega) (k + 1) (by omega) H _ _ _ FF
          refine hP.1 _ _ s_R_minds_207 _ _ _ _ _ ?_
          simp (maxSteps := 1000000) (disch := omega) only [g_R_minds_207, slk, List.map_cons, List.map_nil, List.sum_cons, List.sum_nil, vc_i, vc_r, vc_n, vc_l, vc_o, Nat.add_zero, kO_e, kA_e, hdO_a, eq_self, blk, stp, lg, ls0, lk, ls1, ls2, kI_i, kL_l, kR_r, kR_n, kR_o, s1I_i, s2I_i, s1L_l, s2L_l, s1R_r, s1R_n, s1R_o, s1A_a, cmpc, popn, swt, rf_s, rf_n, cat_i, cat_r, cat_n, cat_l, true_and, and_true, List.length_cons, List.length_nil, Nat.zero_add, Int.reduceToNat, Nat.reduceAdd, Nat.reduceDiv, Nat.reduceMod, Nat.reduceMul, Nat.reduceSub, Nat.reduceLeDiff, Nat.reduceLT, Nat.reduceEqDiff, ↓reduceIte, r_gr_wi, r_gl_wi, r_gk_wi, r_gn_wi, r_wi_eq, r_wi_ne, r_wi_nj, r_gi_wr, r_gl_wr, r_gk_wr, r_gn_wr, r_gr_wa, r_gl_wa, r_gk_wa, r_gn_wa, aa_e, as_e, al_e, u_lt, u_le, u_gt, u_ge, u_lt0, u_le0, u_gt0, u_ge0, Classical.not_not, not_true_eq_false, not_false_eq_true, oi_n, oi_m, n_dec, nI_add, pk_mul, n_sub, n_eq, n_le, n_lt, n_eq0, n_lt0, n_le0, n_0lt, n_0le, n_eqm, m_eqn, n_ltm, n_and, n_or, n_xor, n_shl, n_shr, tb1, tb0, bP_1, bP_0, bP_n0, ix_n, inb_n, u_eq, u_eqm, n1_1, true_or, or_true, u_eqm]
          refine ⟨fun q => ?_, fun q => ?_⟩
          · refine hP.1 _ _ s_R_minds_220 _ _ _ _ _ ?_
            simp (maxSteps := 1000000) (disch := omega) only [g_R_minds_220, slk, List.map_cons, List.map_nil, List.sum_cons, List.sum_nil, vc_i, vc_r, vc_n, vc_l, vc_o, Nat.add_zero, kO_e, kA_e, hdO_a, eq_self, blk, stp, lg, ls0, lk, ls1, ls2, kI_i, kL_l, kR_r, kR_n, kR_o, s1I_i, s2I_i, s1L_l, s2L_l, s1R_r, s1R_n, s1R_o, s1A_a, cmpc, popn, swt, rf_s, rf_n, cat_i, cat_r, cat_n, cat_l, true_and, and_true, List.length_cons, List.length_nil, Nat.zero_add, Int.reduceToNat, Nat.reduceAdd, Nat.reduceDiv, Nat.reduceMod, Nat.reduceMul, Nat.reduceSub, Nat.reduceLeDiff, Nat.reduceLT, Nat.reduceEqDiff, ↓reduceIte, r_gr_wi, r_gl_wi, r_gk_wi, r_gn_wi, r_wi_eq, r_wi_ne, r_wi_nj, r_gi_wr, r_gl_wr, r_gk_wr, r_gn_wr, r_gr_wa, r_gl_wa, r_gk_wa, r_gn_wa, aa_e, as_e, al_e, u_lt, u_le, u_gt, u_ge, u_lt0, u_le0, u_gt0, u_ge0, Classical.not_not, not_true_eq_false, not_false_eq_true, oi_n, oi_m, n_dec, nI_add, pk_mul, n_sub, n_eq, n_le, n_lt, n_eq0, n_lt0, n_le0, n_0lt, n_0le, n_eqm, m_eqn, n_ltm, n_and, n_or, n_xor, n_shl, n_shr, tb1, tb0, bP_1, bP_0, bP_n0, ix_n, inb_n, u_eq, u_eqm, n1_1, true_or, or_true, u_eqm]
            exact nx 0 (nif_f (fun z => q (ht.mpr z))).symm
          · refine hP.1 _ _ s_R_minds_213 _ _ _ _ _ ?_
            simp (maxSteps := 1000000) (disch := omega) only [g_R_minds_213, slk, List.map_cons, List.map_nil, List.sum_cons, List.sum_nil, vc_i, vc_r, vc_n, vc_l, vc_o, Nat.add_zero, kO_e, kA_e, hdO_a, eq_self, blk, stp, lg, ls0, lk, ls1, ls2, kI_i, kL_l, kR_r, kR_n, kR_o, s1I_i, s2I_i, s1L_l, s2L_l, s1R_r, s1R_n, s1R_o, s1A_a, cmpc, popn, swt, rf_s, rf_n, cat_i, cat_r, cat_n, cat_l, true_and, and_true, List.length_cons, List.length_nil, Nat.zero_add, Int.reduceToNat, Nat.reduceAdd, Nat.reduceDiv, Nat.reduceMod, Nat.reduceMul, Nat.reduceSub, Nat.reduceLeDiff, Nat.reduceLT, Nat.reduceEqDiff, ↓reduceIte, r_gr_wi, r_gl_wi, r_gk_wi, r_gn_wi, r_wi_eq, r_wi_ne, r_wi_nj, r_gi_wr, r_gl_wr, r_gk_wr, r_gn_wr, r_gr_wa, r_gl_wa, r_gk_wa, r_gn_wa, aa_e, as_e, al_e, u_lt, u_le, u_gt, u_ge, u_lt0, u_le0, u_gt0, u_ge0, Classical.not_not, not_true_eq_false, not_false_eq_true, oi_n, oi_m, n_dec, nI_add, pk_mul, n_sub, n_eq, n_le, n_lt, n_eq0, n_lt0, n_le0, n_0lt, n_0le, n_eqm, m_eqn, n_ltm, n_and, n_or, n_xor, n_shl, n_shr, tb1, tb0, bP_1, bP_0, bP_n0, ix_n, inb_n, u_eq, u_eqm, n1_1, true_or, or_true, u_eqm]
            exact nx _ (nif_t (ht.mp q)).symm
        have inner : ∀ n2 l, l + n2 = L.length → ∀ H x7, Ft [31, 32, 33, 34, 35, 36, 37, 40] [128] Hb H → P 58 [some (.ref 107), some (.int (nI e)), some (.int (nI m)), some (.int (nI (orN k (fun k => nif (mdQ s L k L.length) (1 <<< k) 0)))), some (.int (nI k)), some (.int (bP (mdQ s L k l))), some (.int (nI l)), x7] [] H 0 0 := by
          intro n2
          induction n2 using Nat.strongRecOn with
          | _ n2 ih2 =>
            intro l hl H x7 FF
            have WH := FF.rw Wb rfl
            have KH := FF.sk Kb rfl
            have LH := FF.lks Lb rfl (fun _ => rfl)
            refine hP.1 _ _ s_R_minds_58 _ _ _ _ _ ?_
            simp (maxSteps := 1000000) (disch := omega) only [g_R_minds_58, slk, List.map_cons, List.map_nil, List.sum_cons, List.sum_nil, vc_i, vc_r, vc_n, vc_l, vc_o, Nat.add_zero, kO_e, kA_e, hdO_a, eq_self, blk, stp, lg, ls0, lk, ls1, ls2, kI_i, kL_l, kR_r, kR_n, kR_o, s1I_i, s2I_i, s1L_l, s2L_l, s1R_r, s1R_n, s1R_o, s1A_a, cmpc, popn, swt, rf_s, rf_n, cat_i, cat_r, cat_n, cat_l, true_and, and_true, List.length_cons, List.length_nil, Nat.zero_add, Int.reduceToNat, Nat.reduceAdd, Nat.reduceDiv, Nat.reduceMod, Nat.reduceMul, Nat.reduceSub, Nat.reduceLeDiff, Nat.reduceLT, Nat.reduceEqDiff, ↓reduceIte, r_gr_wi, r_gl_wi, r_gk_wi, r_gn_wi, r_wi_eq, r_wi_ne, r_wi_nj, r_gi_wr, r_gl_wr, r_gk_wr, r_gn_wr, r_gr_wa, r_gl_wa, r_gk_wa, r_gn_wa, aa_e, as_e, al_e, u_lt, u_le, u_gt, u_ge, u_lt0, u_le0, u_gt0, u_ge0, Classical.not_not, not_true_eq_false, not_false_eq_true, oi_n, oi_m, n_dec, nI_add, pk_mul, n_sub, n_eq, n_le, n_lt, n_eq0, n_lt0, n_le0, n_0lt, n_0le, n_eqm, m_eqn, n_ltm, n_and, n_or, n_xor, n_shl, n_shr, tb1, tb0, bP_1, bP_0, bP_n0, ix_n, inb_n, u_eq, u_eqm, k107 WH.1, n1_1, true_or, or_true, u_eqm, LH.1]
            refine ⟨fun hc => ?_, fun hc => ?_⟩
            · have e1 : l = L.length := by omega
              exact en _ H l x7 (by rw [e1]) FF
            have hl2 : l < L.length := by omega
            refine hP.1 _ _ s_R_minds_67 _ _ _ _ _ ?_
            simp (maxSteps := 1000000) (disch := omega) only [g_R_minds_67, slk, List.map_cons, List.map_nil, List.sum_cons, List.sum_nil, vc_i, vc_r, vc_n, vc_l, vc_o, Nat.add_zero, kO_e, kA_e, hdO_a, eq_self, blk, stp, lg, ls0, lk, ls1, ls2, kI_i, kL_l, kR_r, kR_n, kR_o, s1I_i, s2I_i, s1L_l, s2L_l, s1R_r, s1R_n, s1R_o, s1A_a, cmpc, popn, swt, rf_s, rf_n, cat_i, cat_r, cat_n, cat_l, true_and, and_true, List.length_cons, List.length_nil, Nat.zero_add, Int.reduceToNat, Nat.reduceAdd, Nat.reduceDiv, Nat.reduceMod, Nat.reduceMul, Nat.reduceSub, Nat.reduceLeDiff, Nat.reduceLT, Nat.reduceEqDiff, ↓reduceIte, r_gr_wi, r_gl_wi, r_gk_wi, r_gn_wi, r_wi_eq, r_wi_ne, r_wi_nj, r_gi_wr, r_gl_wr, r_gk_wr, r_gn_wr, r_gr_wa, r_gl_wa, r_gk_wa, r_gn_wa, aa_e, as_e, al_e, u_lt, u_le, u_gt, u_ge, u_lt0, u_le0, u_gt0, u_ge0, Classical.not_not, not_true_eq_false, not_false_eq_true, oi_n, oi_m, n_dec, nI_add, pk_mul, n_sub, n_eq, n_le, n_lt, n_eq0, n_lt0, n_le0, n_0lt, n_0le, n_eqm, m_eqn, n_ltm, n_and, n_or, n_xor, n_shl, n_shr, tb1, tb0, bP_1, bP_0, bP_n0, ix_n, inb_n, u_eq, u_eqm, n1_1, true_or, or_true, u_eqm]
            refine ⟨fun q => en _ H l x7 ⟨fun z => absurd z q, fun z y hy => z y (by omega)⟩ FF, fun q => ?_⟩
            have xb := lb3 (L.getD l l0) (by rw [List.getD_eq_getElem?_getD, List.getElem?_eq_getElem hl2]; exact List.getElem_mem hl2)
            have lkk := LH.2 l hl2
            have fin : ∀ (t : Prop) H x7, (t ↔ mdX s (L.getD l l0) k) → Ft [31, 32, 33, 34, 35, 36, 37, 40] [128] Hb H → P 199 [some (.ref 107), some (.int (nI e)), some (.int (nI m)), some (.int (nI (orN k (fun k => nif (mdQ s L k L.length) (1 <<< k) 0)))), some (.int (nI k)), some (.int (bP (mdQ s L k l))), some (.int (nI l)), x7] [.int (bP t)] H 0 0 := by
              intro t H x7 ht FF
              refine hP.1 _ _ s_R_minds_199 _ _ _ _ _ ?_
              simp (maxSteps := 1000000) (disch := omega) only [g_R_minds_199, slk, List.map_cons, List.map_nil, List.sum_cons, List.sum_nil, vc_i, vc_r, vc_n, vc_l, vc_o, Nat.add_zero, kO_e, kA_e, hdO_a, eq_self, blk, stp, lg, ls0, lk, ls1, ls2, kI_i, kL_l, kR_r, kR_n, kR_o, s1I_i, s2I_i, s1L_l, s2L_l, s1R_r, s1R_n, s1R_o, s1A_a, cmpc, popn, swt, rf_s, rf_n, cat_i, cat_r, cat_n, cat_l, true_and, and_true, List.length_cons, List.length_nil, Nat.zero_add, Int.reduceToNat, Nat.reduceAdd, Nat.reduceDiv, Nat.reduceMod, Nat.reduceMul, Nat.reduceSub, Nat.reduceLeDiff, Nat.reduceLT, Nat.reduceEqDiff, ↓reduceIte, r_gr_wi, r_gl_wi, r_gk_wi, r_gn_wi, r_wi_eq, r_wi_ne, r_wi_nj, r_gi_wr, r_gl_wr, r_gk_wr, r_gn_wr, r_gr_wa, r_gl_wa, r_gk_wa, r_gn_wa, aa_e, as_e, al_e, u_lt, u_le, u_gt, u_ge, u_lt0, u_le0, u_gt0, u_ge0, Classical.not_not, not_true_eq_false, not_false_eq_true, oi_n, oi_m, n_dec, nI_add, pk_mul, n_sub, n_eq, n_le, n_lt, n_eq0, n_lt0, n_le0, n_0lt, n_0le, n_eqm, m_eqn, n_ltm, n_and, n_or, n_xor, n_shl, n_shr, tb1, tb0, bP_1, bP_0, bP_n0, ix_n, inb_n, u_eq, u_eqm, n1_1, true_or, or_true, u_eqm]
              have := ih2 (n2 - 1) (by omega) (l + 1) (by omega) H x7 FF
              rw [bP_c (mdQ_s ht q)]
              exact this
            have cmp : ∀ (t : Prop) H, (t ↔ wnP (wtS s true (ltF (L.getD l l0).1) (8 + k) 110) (1 < (L.getD l l0).2)) → Ft [31, 32, 33, 34, 35, 36, 37, 40] [128] Hb H → P 163 [some (.ref 107), some (.int (nI e)), some (.int (nI m)), some (.int (nI (orN k (fun k => nif (mdQ s L k L.length) (1 <<< k) 0)))), some (.int (nI k)), some (.int (bP (mdQ s L k l))), some (.int (nI l)), some (.int (nI 10))] [.int (bP t)] H 0 0 := by
              intro t H ht FF
              have WH := FF.rw Wb rfl
              have LH := FF.lks Lb rfl (fun _ => rfl)
              have lkk := (LH.2 l hl2).2
              have r2 := rem2 _ xb
              have xm : (L.getD l l0).2 % 2 < 2 := Nat.mod_lt _ (by omega)
              have f1 : ∀ x7, mdX s (L.getD l l0) k → P 199 [some (.ref 107), some (.int (nI e)), some (.int (nI m)), some (.int (nI (orN k (fun k => nif (mdQ s L k L.length) (1 <<< k) 0)))), some (.int (nI k)), some (.int (bP (mdQ s L k l))), some (.int (nI l)), x7] [.int (nI 1)] H 0 0 := by
                intro x7 hx
                have := fin True H x7 ⟨fun _ => hx, fun _ => trivial⟩ FF
                rw [bP_t trivial] at this
                exact this
              have f0 : ∀ x7, ¬ mdX s (L.getD l l0) k → P 199 [some (.ref 107), some (.int (nI e)), some (.int (nI m)), some (.int (nI (orN k (fun k => nif (mdQ s L k L.length) (1 <<< k) 0)))), some (.int (nI k)), some (.int (bP (mdQ s L k l))), some (.int (nI l)), x7] [.int (nI 0)] H 0 0 := by
                intro x7 hx
                have := fin False H x7 ⟨fun z => z.elim, fun z => hx z⟩ FF
                rw [bP_f id] at this
                exact this
              unfold mdX at f1 f0
              rw [← ht] at f1 f0
              refine hP.1 _ _ s_R_minds_163 _ _ _ _ _ ?_
              simp (maxSteps := 1000000) (disch := omega) only [g_R_minds_163, slk, List.map_cons, List.map_nil, List.sum_cons, List.sum_nil, vc_i, vc_r, vc_n, vc_l, vc_o, Nat.add_zero, kO_e, kA_e, hdO_a, eq_self, blk, stp, lg, ls0, lk, ls1, ls2, kI_i, kL_l, kR_r, kR_n, kR_o, s1I_i, s2I_i, s1L_l, s2L_l, s1R_r, s1R_n, s1R_o, s1A_a, cmpc, popn, swt, rf_s, rf_n, cat_i, cat_r, cat_n, cat_l, true_and, and_true, List.length_cons, List.length_nil, Nat.zero_add, Int.reduceToNat, Nat.reduceAdd, Nat.reduceDiv, Nat.reduceMod, Nat.reduceMul, Nat.reduceSub, Nat.reduceLeDiff, Nat.reduceLT, Nat.reduceEqDiff, ↓reduceIte, r_gr_wi, r_gl_wi, r_gk_wi, r_gn_wi, r_wi_eq, r_wi_ne, r_wi_nj, r_gi_wr, r_gl_wr, r_gk_wr, r_gn_wr, r_gr_wa, r_gl_wa, r_gk_wa, r_gn_wa, aa_e, as_e, al_e, u_lt, u_le, u_gt, u_ge, u_lt0, u_le0, u_gt0, u_ge0, Classical.not_not, not_true_eq_false, not_false_eq_true, oi_n, oi_m, n_dec, nI_add, pk_mul, n_sub, n_eq, n_le, n_lt, n_eq0, n_lt0, n_le0, n_0lt, n_0le, n_eqm, m_eqn, n_ltm, n_and, n_or, n_xor, n_shl, n_shr, tb1, tb0, bP_1, bP_0, bP_n0, ix_n, inb_n, u_eq, u_eqm, k107 WH.1, f107_59 WH.1, k143 WH.1, lkk, r2]
              refine ⟨fun q2 => ?_, fun q2 => ?_⟩
              · refine hP.1 _ _ s_R_minds_190 _ _ _ _ _ ?_
                simp (maxSteps := 1000000) (disch := omega) only [g_R_minds_190, slk, List.map_cons, List.map_nil, List.sum_cons, List.sum_nil, vc_i, vc_r, vc_n, vc_l, vc_o, Nat.add_zero, kO_e, kA_e, hdO_a, eq_self, blk, stp, lg, ls0, lk, ls1, ls2, kI_i, kL_l, kR_r, kR_n, kR_o, s1I_i, s2I_i, s1L_l, s2L_l, s1R_r, s1R_n, s1R_o, s1A_a, cmpc, popn, swt, rf_s, rf_n, cat_i, cat_r, cat_n, cat_l, true_and, and_true, List.length_cons, List.length_nil, Nat.zero_add, Int.reduceToNat, Nat.reduceAdd, Nat.reduceDiv, Nat.reduceMod, Nat.reduceMul, Nat.reduceSub, Nat.reduceLeDiff, Nat.reduceLT, Nat.reduceEqDiff, ↓reduceIte, r_gr_wi, r_gl_wi, r_gk_wi, r_gn_wi, r_wi_eq, r_wi_ne, r_wi_nj, r_gi_wr, r_gl_wr, r_gk_wr, r_gn_wr, r_gr_wa, r_gl_wa, r_gk_wa, r_gn_wa, aa_e, as_e, al_e, u_lt, u_le, u_gt, u_ge, u_lt0, u_le0, u_gt0, u_ge0, Classical.not_not, not_true_eq_false, not_false_eq_true, oi_n, oi_m, n_dec, nI_add, pk_mul, n_sub, n_eq, n_le, n_lt, n_eq0, n_lt0, n_le0, n_0lt, n_0le, n_eqm, m_eqn, n_ltm, n_and, n_or, n_xor, n_shl, n_shr, tb1, tb0, bP_1, bP_0, bP_n0, ix_n, inb_n, u_eq, u_eqm, lkk, r2]
                refine hP.1 _ _ s_R_minds_191 _ _ _ _ _ ?_
                simp (maxSteps := 1000000) (disch := omega) only [g_R_minds_191, slk, List.map_cons, List.map_nil, List.sum_cons, List.sum_nil, vc_i, vc_r, vc_n, vc_l, vc_o, Nat.add_zero, kO_e, kA_e, hdO_a, eq_self, blk, stp, lg, ls0, lk, ls1, ls2, kI_i, kL_l, kR_r, kR_n, kR_o, s1I_i, s2I_i, s1L_l, s2L_l, s1R_r, s1R_n, s1R_o, s1A_a, cmpc, popn, swt, rf_s, rf_n, cat_i, cat_r, cat_n, cat_l, true_and, and_true, List.length_cons, List.length_nil, Nat.zero_add, Int.reduceToNat, Nat.reduceAdd, Nat.reduceDiv, Nat.reduceMod, Nat.reduceMul, Nat.reduceSub, Nat.reduceLeDiff, Nat.reduceLT, Nat.reduceEqDiff, ↓reduceIte, r_gr_wi, r_gl_wi, r_gk_wi, r_gn_wi, r_wi_eq, r_wi_ne, r_wi_nj, r_gi_wr, r_gl_wr, r_gk_wr, r_gn_wr, r_gr_wa, r_gl_wa, r_gk_wa, r_gn_wa, aa_e, as_e, al_e, u_lt, u_le, u_gt, u_ge, u_lt0, u_le0, u_gt0, u_ge0, Classical.not_not, not_true_eq_false, not_false_eq_true, oi_n, oi_m, n_dec, nI_add, pk_mul, n_sub, n_eq, n_le, n_lt, n_eq0, n_lt0, n_le0, n_0lt, n_0le, n_eqm, m_eqn, n_ltm, n_and, n_or, n_xor, n_shl, n_shr, tb1, tb0, bP_1, bP_0, bP_n0, ix_n, inb_n, u_eq, u_eqm, lkk, r2]
                refine ⟨fun q3 => ?_, fun q3 => ?_⟩
                · refine hP.1 _ _ s_R_minds_198 _ _ _ _ _ ?_
                  simp (maxSteps := 1000000) (disch := omega) only [g_R_minds_198, slk, List.map_cons, List.map_nil, List.sum_cons, List.sum_nil, vc_i, vc_r, vc_n, vc_l, vc_o, Nat.add_zero, kO_e, kA_e, hdO_a, eq_self, blk, stp, lg, ls0, lk, ls1, ls2, kI_i, kL_l, kR_r, kR_n, kR_o, s1I_i, s2I_i, s1L_l, s2L_l, s1R_r, s1R_n, s1R_o, s1A_a, cmpc, popn, swt, rf_s, rf_n, cat_i, cat_r, cat_n, cat_l, true_and, and_true, List.length_cons, List.length_nil, Nat.zero_add, Int.reduceToNat, Nat.reduceAdd, Nat.reduceDiv, Nat.reduceMod, Nat.reduceMul, Nat.reduceSub, Nat.reduceLeDiff, Nat.reduceLT, Nat.reduceEqDiff, ↓reduceIte, r_gr_wi, r_gl_wi, r_gk_wi, r_gn_wi, r_wi_eq, r_wi_ne, r_wi_nj, r_gi_wr, r_gl_wr, r_gk_wr, r_gn_wr, r_gr_wa, r_gl_wa, r_gk_wa, r_gn_wa, aa_e, as_e, al_e, u_lt, u_le, u_gt, u_ge, u_lt0, u_le0, u_gt0, u_ge0, Classical.not_not, not_true_eq_false, not_false_eq_true, oi_n, oi_m, n_dec, nI_add, pk_mul, n_sub, n_eq, n_le, n_lt, n_eq0, n_lt0, n_le0, n_0lt, n_0le, n_eqm, m_eqn, n_ltm, n_and, n_or, n_xor, n_shl, n_shr, tb1, tb0, bP_1, bP_0, bP_n0, ix_n, inb_n, u_eq, u_eqm, lkk, r2]
                  exact f0 _ (fun z => q2 (z.mp q3))
                · refine hP.1 _ _ s_R_minds_194 _ _ _ _ _ ?_
                  simp (maxSteps := 1000000) (disch := omega) only [g_R_minds_194, slk, List.map_cons, List.map_nil, List.sum_cons, List.sum_nil, vc_i, vc_r, vc_n, vc_l, vc_o, Nat.add_zero, kO_e, kA_e, hdO_a, eq_self, blk, stp, lg, ls0, lk, ls1, ls2, kI_i, kL_l, kR_r, kR_n, kR_o, s1I_i, s2I_i, s1L_l, s2L_l, s1R_r, s1R_n, s1R_o, s1A_a, cmpc, popn, swt, rf_s, rf_n, cat_i, cat_r, cat_n, cat_l, true_and, and_true, List.length_cons, List.length_nil, Nat.zero_add, Int.reduceToNat, Nat.reduceAdd, Nat.reduceDiv, Nat.reduceMod, Nat.reduceMul, Nat.reduceSub, Nat.reduceLeDiff, Nat.reduceLT, Nat.reduceEqDiff, ↓reduceIte, r_gr_wi, r_gl_wi, r_gk_wi, r_gn_wi, r_wi_eq, r_wi_ne, r_wi_nj, r_gi_wr, r_gl_wr, r_gk_wr, r_gn_wr, r_gr_wa, r_gl_wa, r_gk_wa, r_gn_wa, aa_e, as_e, al_e, u_lt, u_le, u_gt, u_ge, u_lt0, u_le0, u_gt0, u_ge0, Classical.not_not, not_true_eq_false, not_false_eq_true, oi_n, oi_m, n_dec, nI_add, pk_mul, n_sub, n_eq, n_le, n_lt, n_eq0, n_lt0, n_le0, n_0lt, n_0le, n_eqm, m_eqn, n_ltm, n_and, n_or, n_xor, n_shl, n_shr, tb1, tb0, bP_1, bP_0, bP_n0, ix_n, inb_n, u_eq, u_eqm, lkk, r2]
                  exact f1 _ ⟨fun z => absurd z q3, fun z => absurd z q2⟩
              · refine hP.1 _ _ s_R_minds_186 _ _ _ _ _ ?_
                simp (maxSteps := 1000000) (disch := omega) only [g_R_minds_186, slk, List.map_cons, List.map_nil, List.sum_cons, List.sum_nil, vc_i, vc_r, vc_n, vc_l, vc_o, Nat.add_zero, kO_e, kA_e, hdO_a, eq_self, blk, stp, lg, ls0, lk, ls1, ls2, kI_i, kL_l, kR_r, kR_n, kR_o, s1I_i, s2I_i, s1L_l, s2L_l, s1R_r, s1R_n, s1R_o, s1A_a, cmpc, popn, swt, rf_s, rf_n, cat_i, cat_r, cat_n, cat_l, true_and, and_true, List.length_cons, List.length_nil, Nat.zero_add, Int.reduceToNat, Nat.reduceAdd, Nat.reduceDiv, Nat.reduceMod, Nat.reduceMul, Nat.reduceSub, Nat.reduceLeDiff, Nat.reduceLT, Nat.reduceEqDiff, ↓reduceIte, r_gr_wi, r_gl_wi, r_gk_wi, r_gn_wi, r_wi_eq, r_wi_ne, r_wi_nj, r_gi_wr, r_gl_wr, r_gk_wr, r_gn_wr, r_gr_wa, r_gl_wa, r_gk_wa, r_gn_wa, aa_e, as_e, al_e, u_lt, u_le, u_gt, u_ge, u_lt0, u_le0, u_gt0, u_ge0, Classical.not_not, not_true_eq_false, not_false_eq_true, oi_n, oi_m, n_dec, nI_add, pk_mul, n_sub, n_eq, n_le, n_lt, n_eq0, n_lt0, n_le0, n_0lt, n_0le, n_eqm, m_eqn, n_ltm, n_and, n_or, n_xor, n_shl, n_shr, tb1, tb0, bP_1, bP_0, bP_n0, ix_n, inb_n, u_eq, u_eqm, lkk, r2]
                refine hP.1 _ _ s_R_minds_191 _ _ _ _ _ ?_
                simp (maxSteps := 1000000) (disch := omega) only [g_R_minds_191, slk, List.map_cons, List.map_nil, List.sum_cons, List.sum_nil, vc_i, vc_r, vc_n, vc_l, vc_o, Nat.add_zero, kO_e, kA_e, hdO_a, eq_self, blk, stp, lg, ls0, lk, ls1, ls2, kI_i, kL_l, kR_r, kR_n, kR_o, s1I_i, s2I_i, s1L_l, s2L_l, s1R_r, s1R_n, s1R_o, s1A_a, cmpc, popn, swt, rf_s, rf_n, cat_i, cat_r, cat_n, cat_l, true_and, and_true, List.length_cons, List.length_nil, Nat.zero_add, Int.reduceToNat, Nat.reduceAdd, Nat.reduceDiv, Nat.reduceMod, Nat.reduceMul, Nat.reduceSub, Nat.reduceLeDiff, Nat.reduceLT, Nat.reduceEqDiff, ↓reduceIte, r_gr_wi, r_gl_wi, r_gk_wi, r_gn_wi, r_wi_eq, r_wi_ne, r_wi_nj, r_gi_wr, r_gl_wr, r_gk_wr, r_gn_wr, r_gr_wa, r_gl_wa, r_gk_wa, r_gn_wa, aa_e, as_e, al_e, u_lt, u_le, u_gt, u_ge, u_lt0, u_le0, u_gt0, u_ge0, Classical.not_not, not_true_eq_false, not_false_eq_true, oi_n, oi_m, n_dec, nI_add, pk_mul, n_sub, n_eq, n_le, n_lt, n_eq0, n_lt0, n_le0, n_0lt, n_0le, n_eqm, m_eqn, n_ltm, n_and, n_or, n_xor, n_shl, n_shr, tb1, tb0, bP_1, bP_0, bP_n0, ix_n, inb_n, u_eq, u_eqm, lkk, r2]
                refine ⟨fun q3 => ?_, fun q3 => ?_⟩
                · refine hP.1 _ _ s_R_minds_198 _ _ _ _ _ ?_
                  simp (maxSteps := 1000000) (disch := omega) only [g_R_minds_198, slk, List.map_cons, List.map_nil, List.sum_cons, List.sum_nil, vc_i, vc_r, vc_n, vc_l, vc_o, Nat.add_zero, kO_e, kA_e, hdO_a, eq_self, blk, stp, lg, ls0, lk, ls1, ls2, kI_i, kL_l, kR_r, kR_n, kR_o, s1I_i, s2I_i, s1L_l, s2L_l, s1R_r, s1R_n, s1R_o, s1A_a, cmpc, popn, swt, rf_s, rf_n, cat_i, cat_r, cat_n, cat_l, true_and, and_true, List.length_cons, List.length_nil, Nat.zero_add, Int.reduceToNat, Nat.reduceAdd, Nat.reduceDiv, Nat.reduceMod, Nat.reduceMul, Nat.reduceSub, Nat.reduceLeDiff, Nat.reduceLT, Nat.reduceEqDiff, ↓reduceIte, r_gr_wi, r_gl_wi, r_gk_wi, r_gn_wi, r_wi_eq, r_wi_ne, r_wi_nj, r_gi_wr, r_gl_wr, r_gk_wr, r_gn_wr, r_gr_wa, r_gl_wa, r_gk_wa, r_gn_wa, aa_e, as_e, al_e, u_lt, u_le, u_gt, u_ge, u_lt0, u_le0, u_gt0, u_ge0, Classical.not_not, not_true_eq_false, not_false_eq_true, oi_n, oi_m, n_dec, nI_add, pk_mul, n_sub, n_eq, n_le, n_lt, n_eq0, n_lt0, n_le0, n_0lt, n_0le, n_eqm, m_eqn, n_ltm, n_and, n_or, n_xor, n_shl, n_shr, tb1, tb0, bP_1, bP_0, bP_n0, ix_n, inb_n, u_eq, u_eqm, lkk, r2]
                  exact f0 _ (fun z => q3 (z.mpr q2))
                · refine hP.1 _ _ s_R_minds_194 _ _ _ _ _ ?_
                  simp (maxSteps := 1000000) (disch := omega) only [g_R_minds_194, slk, List.map_cons, List.map_nil, List.sum_cons, List.sum_nil, vc_i, vc_r, vc_n, vc_l, vc_o, Nat.add_zero, kO_e, kA_e, hdO_a, eq_self, blk, stp, lg, ls0, lk, ls1, ls2, kI_i, kL_l, kR_r, kR_n, kR_o, s1I_i, s2I_i, s1L_l, s2L_l, s1R_r, s1R_n, s1R_o, s1A_a, cmpc, popn, swt, rf_s, rf_n, cat_i, cat_r, cat_n, cat_l, true_and, and_true, List.length_cons, List.length_nil, Nat.zero_add, Int.reduceToNat, Nat.reduceAdd, Nat.reduceDiv, Nat.reduceMod, Nat.reduceMul, Nat.reduceSub, Nat.reduceLeDiff, Nat.reduceLT, Nat.reduceEqDiff, ↓reduceIte, r_gr_wi, r_gl_wi, r_gk_wi, r_gn_wi, r_wi_eq, r_wi_ne, r_wi_nj, r_gi_wr, r_gl_wr, r_gk_wr, r_gn_wr, r_gr_wa, r_gl_wa, r_gk_wa, r_gn_wa, aa_e, as_e, al_e, u_lt, u_le, u_gt, u_ge, u_lt0, u_le0, u_gt0, u_ge0, Classical.not_not, not_true_eq_false, not_false_eq_true, oi_n, oi_m, n_dec, nI_add, pk_mul, n_sub, n_eq, n_le, n_lt, n_eq0, n_lt0, n_le0, n_0lt, n_0le, n_eqm, m_eqn, n_ltm, n_and, n_or, n_xor, n_shl, n_shr, tb1, tb0, bP_1, bP_0, bP_n0, ix_n, inb_n, u_eq, u_eqm, lkk, r2]
                  exact f1 _ ⟨fun _ => q2, fun _ => q3⟩
            have after : ∀ H, Ft [31, 32, 33, 34, 35, 36, 37, 40] [128] Hb H → (∀ j, j < 10 → gi H 128 ((strN 4).getD j 0) = ltF (L.getD l l0).1 ((strN 4).getD j 0)) → P 114 [some (.ref 107), some (.int (nI e)), some (.int (nI m)), some (.int (nI (orN k (fun k => nif (mdQ s L k L.length) (1 <<< k) 0)))), some (.int (nI k)), some (.int (bP (mdQ s L k l))), some (.int (nI l)), some (.int (nI 10))] [] H 0 0 := by
              intro H FF h10
              have WH := FF.rw Wb rfl
              have KH := FF.sk Kb rfl
              have e0 : nI 1 = bP (true = true) := (bP_t rfl).symm
              have g := c_R_hasWorth (d := d + 4) (mind := true) (lb := 110) WH KH (k := k) (by omega) (TT.2 _ hk2) (l := fun c => gi H 128 c) (fun c _ => rfl) (by omega)
              have eal : wtS s true (fun c => gi H 128 c) (kOf true k) 110 = wtS s true (ltF (L.getD l l0).1) (8 + k) 110 := wtS_al fun c hc => by
                obtain ⟨j, hj, rfl⟩ := told_al c hc
                exact h10 j hj
              rw [← e0, eal] at g
              have tr : ∀ t : Prop, ∀ H, t → (t ↔ wnP (wtS s true (ltF (L.getD l l0).1) (8 + k) 110) (1 < (L.getD l l0).2)) → Ft [31, 32, 33, 34, 35, 36, 37, 40] [128] Hb H → P 163 [some (.ref 107), some (.int (nI e)), some (.int (nI m)), some (.int (nI (orN k (fun k => nif (mdQ s L k L.length) (1 <<< k) 0)))), some (.int (nI k)), some (.int (bP (mdQ s L k l))), some (.int (nI l)), some (.int (nI 10))] [.int (nI 1)] H 0 0 := by
                intro t H h1 h2 FF
                have := cmp t H h2 FF
                rw [bP_t h1] at this
                exact this
              have fa : ∀ t : Prop, ∀ H, ¬ t → (t ↔ wnP (wtS s true (ltF (L.getD l l0).1) (8 + k) 110) (1 < (L.getD l l0).2)) → Ft [31, 32, 33, 34, 35, 36, 37, 40] [128] Hb H → P 163 [some (.ref 107), some (.int (nI e)), some (.int (nI m)), some (.int (nI (orN k (fun k => nif (mdQ s L k L.length) (1 <<< k) 0)))), some (.int (nI k)), some (.int (bP (mdQ s L k l))), some (.int (nI l)), some (.int (nI 10))] [.int (nI 0)] H 0 0 := by
                intro t H h1 h2 FF
                have := cmp t H h2 FF
                rw [bP_f h1] at this
                exact this
              refine hP.1 _ _ s_R_minds_114 _ _ _ _ _ ?_
              simp (maxSteps := 1000000) (disch := omega) only [g_R_minds_114, slk, List.map_cons, List.map_nil, List.sum_cons, List.sum_nil, vc_i, vc_r, vc_n, vc_l, vc_o, Nat.add_zero, kO_e, kA_e, hdO_a, eq_self, blk, stp, lg, ls0, lk, ls1, ls2, kI_i, kL_l, kR_r, kR_n, kR_o, s1I_i, s2I_i, s1L_l, s2L_l, s1R_r, s1R_n, s1R_o, s1A_a, cmpc, popn, swt, rf_s, rf_n, cat_i, cat_r, cat_n, cat_l, true_and, and_true, List.length_cons, List.length_nil, Nat.zero_add, Int.reduceToNat, Nat.reduceAdd, Nat.reduceDiv, Nat.reduceMod, Nat.reduceMul, Nat.reduceSub, Nat.reduceLeDiff, Nat.reduceLT, Nat.reduceEqDiff, ↓reduceIte, r_gr_wi, r_gl_wi, r_gk_wi, r_gn_wi, r_wi_eq, r_wi_ne, r_wi_nj, r_gi_wr, r_gl_wr, r_gk_wr, r_gn_wr, r_gr_wa, r_gl_wa, r_gk_wa, r_gn_wa, aa_e, as_e, al_e, u_lt, u_le, u_gt, u_ge, u_lt0, u_le0, u_gt0, u_ge0, Classical.not_not, not_true_eq_false, not_false_eq_true, oi_n, oi_m, n_dec, nI_add, pk_mul, n_sub, n_eq, n_le, n_lt, n_eq0, n_lt0, n_le0, n_0lt, n_0le, n_eqm, m_eqn, n_ltm, n_and, n_or, n_xor, n_shl, n_shr, tb1, tb0, bP_1, bP_0, bP_n0, ix_n, inb_n, u_eq, u_eqm, k107 WH.1, n1_1, true_or, or_true, u_eqm]
              refine ⟨_, _, _, g, ⟨by omega, by omega⟩, ?_⟩
              rintro r H2 ⟨rfl, F2, hv⟩
              have FF2 := FF.trans (F2.mono rfl)
              have W2 := FF2.rw Wb rfl
              have LH := FF2.lks Lb rfl (fun _ => rfl)
              have lkk := (LH.2 l hl2).2
              simp (maxSteps := 1000000) (disch := omega) only [slk, List.map_cons, List.map_nil, List.sum_cons, List.sum_nil, vc_i, vc_r, vc_n, vc_l, vc_o, Nat.add_zero, kO_e, kA_e, hdO_a, eq_self, blk, stp, lg, ls0, lk, ls1, ls2, kI_i, kL_l, kR_r, kR_n, kR_o, s1I_i, s2I_i, s1L_l, s2L_l, s1R_r, s1R_n, s1R_o, s1A_a, cmpc, popn, swt, rf_s, rf_n, cat_i, cat_r, cat_n, cat_l, true_and, and_true, List.length_cons, List.length_nil, Nat.zero_add, Int.reduceToNat, Nat.reduceAdd, Nat.reduceDiv, Nat.reduceMod, Nat.reduceMul, Nat.reduceSub, Nat.reduceLeDiff, Nat.reduceLT, Nat.reduceEqDiff, ↓reduceIte, r_gr_wi, r_gl_wi, r_gk_wi, r_gn_wi, r_wi_eq, r_wi_ne, r_wi_nj, r_gi_wr, r_gl_wr, r_gk_wr, r_gn_wr, r_gr_wa, r_gl_wa, r_gk_wa, r_gn_wa, aa_e, as_e, al_e, u_lt, u_le, u_gt, u_ge, u_lt0, u_le0, u_gt0, u_ge0, Classical.not_not, not_true_eq_false, not_false_eq_true, oi_n, oi_m, n_dec, nI_add, pk_mul, n_sub, n_eq, n_le, n_lt, n_eq0, n_lt0, n_le0, n_0lt, n_0le, n_eqm, m_eqn, n_ltm, n_and, n_or, n_xor, n_shl, n_shr, tb1, tb0, bP_1, bP_0, bP_n0, ix_n, inb_n, u_eq, u_eqm, k107 WH.1, n1_1, true_or, or_true, u_eqm]
              refine ⟨fun q3 => ?_, fun q3 => ?_⟩
              · have e := q3
                refine hP.1 _ _ s_R_minds_141 _ _ _ _ _ ?_
                simp (maxSteps := 1000000) (disch := omega) only [g_R_minds_141, slk, List.map_cons, List.map_nil, List.sum_cons, List.sum_nil, vc_i, vc_r, vc_n, vc_l, vc_o, Nat.add_zero, kO_e, kA_e, hdO_a, eq_self, blk, stp, lg, ls0, lk, ls1, ls2, kI_i, kL_l, kR_r, kR_n, kR_o, s1I_i, s2I_i, s1L_l, s2L_l, s1R_r, s1R_n, s1R_o, s1A_a, cmpc, popn, swt, rf_s, rf_n, cat_i, cat_r, cat_n, cat_l, true_and, and_true, List.length_cons, List.length_nil, Nat.zero_add, Int.reduceToNat, Nat.reduceAdd, Nat.reduceDiv, Nat.reduceMod, Nat.reduceMul, Nat.reduceSub, Nat.reduceLeDiff, Nat.reduceLT, Nat.reduceEqDiff, ↓reduceIte, r_gr_wi, r_gl_wi, r_gk_wi, r_gn_wi, r_wi_eq, r_wi_ne, r_wi_nj, r_gi_wr, r_gl_wr, r_gk_wr, r_gn_wr, r_gr_wa, r_gl_wa, r_gk_wa, r_gn_wa, aa_e, as_e, al_e, u_lt, u_le, u_gt, u_ge, u_lt0, u_le0, u_gt0, u_ge0, Classical.not_not, not_true_eq_false, not_false_eq_true, oi_n, oi_m, n_dec, nI_add, pk_mul, n_sub, n_eq, n_le, n_lt, n_eq0, n_lt0, n_le0, n_0lt, n_0le, n_eqm, m_eqn, n_ltm, n_and, n_or, n_xor, n_shl, n_shr, tb1, tb0, bP_1, bP_0, bP_n0, ix_n, inb_n, u_eq, u_eqm, k107 W2.1, f107_59 W2.1, k143 W2.1, lkk]
                refine ⟨fun q4 => ?_, fun q4 => ?_⟩
                · refine hP.1 _ _ s_R_minds_162 _ _ _ _ _ ?_
                  simp (maxSteps := 1000000) (disch := omega) only [g_R_minds_162, slk, List.map_cons, List.map_nil, List.sum_cons, List.sum_nil, vc_i, vc_r, vc_n, vc_l, vc_o, Nat.add_zero, kO_e, kA_e, hdO_a, eq_self, blk, stp, lg, ls0, lk, ls1, ls2, kI_i, kL_l, kR_r, kR_n, kR_o, s1I_i, s2I_i, s1L_l, s2L_l, s1R_r, s1R_n, s1R_o, s1A_a, cmpc, popn, swt, rf_s, rf_n, cat_i, cat_r, cat_n, cat_l, true_and, and_true, List.length_cons, List.length_nil, Nat.zero_add, Int.reduceToNat, Nat.reduceAdd, Nat.reduceDiv, Nat.reduceMod, Nat.reduceMul, Nat.reduceSub, Nat.reduceLeDiff, Nat.reduceLT, Nat.reduceEqDiff, ↓reduceIte, r_gr_wi, r_gl_wi, r_gk_wi, r_gn_wi, r_wi_eq, r_wi_ne, r_wi_nj, r_gi_wr, r_gl_wr, r_gk_wr, r_gn_wr, r_gr_wa, r_gl_wa, r_gk_wa, r_gn_wa, aa_e, as_e, al_e, u_lt, u_le, u_gt, u_ge, u_lt0, u_le0, u_gt0, u_ge0, Classical.not_not, not_true_eq_false, not_false_eq_true, oi_n, oi_m, n_dec, nI_add, pk_mul, n_sub, n_eq, n_le, n_lt, n_eq0, n_lt0, n_le0, n_0lt, n_0le, n_eqm, m_eqn, n_ltm, n_and, n_or, n_xor, n_shl, n_shr, tb1, tb0, bP_1, bP_0, bP_n0, ix_n, inb_n, u_eq, u_eqm, lkk]
                  exact fa (1 < (L.getD l l0).2) H2 (by omega) (wnP_n e).symm FF2
                · refine hP.1 _ _ s_R_minds_158 _ _ _ _ _ ?_
                  simp (maxSteps := 1000000) (disch := omega) only [g_R_minds_158, slk, List.map_cons, List.map_nil, List.sum_cons, List.sum_nil, vc_i, vc_r, vc_n, vc_l, vc_o, Nat.add_zero, kO_e, kA_e, hdO_a, eq_self, blk, stp, lg, ls0, lk, ls1, ls2, kI_i, kL_l, kR_r, kR_n, kR_o, s1I_i, s2I_i, s1L_l, s2L_l, s1R_r, s1R_n, s1R_o, s1A_a, cmpc, popn, swt, rf_s, rf_n, cat_i, cat_r, cat_n, cat_l, true_and, and_true, List.length_cons, List.length_nil, Nat.zero_add, Int.reduceToNat, Nat.reduceAdd, Nat.reduceDiv, Nat.reduceMod, Nat.reduceMul, Nat.reduceSub, Nat.reduceLeDiff, Nat.reduceLT, Nat.reduceEqDiff, ↓reduceIte, r_gr_wi, r_gl_wi, r_gk_wi, r_gn_wi, r_wi_eq, r_wi_ne, r_wi_nj, r_gi_wr, r_gl_wr, r_gk_wr, r_gn_wr, r_gr_wa, r_gl_wa, r_gk_wa, r_gn_wa, aa_e, as_e, al_e, u_lt, u_le, u_gt, u_ge, u_lt0, u_le0, u_gt0, u_ge0, Classical.not_not, not_true_eq_false, not_false_eq_true, oi_n, oi_m, n_dec, nI_add, pk_mul, n_sub, n_eq, n_le, n_lt, n_eq0, n_lt0, n_le0, n_0lt, n_0le, n_eqm, m_eqn, n_ltm, n_and, n_or, n_xor, n_shl, n_shr, tb1, tb0, bP_1, bP_0, bP_n0, ix_n, inb_n, u_eq, u_eqm, lkk]
                  exact tr (1 < (L.getD l l0).2) H2 (by omega) (wnP_n e).symm FF2
              · cases e : wtS s true (ltF (L.getD l l0).1) (8 + k) 110 with
                | none => exact absurd e q3
                | some v =>
                  have hv2 := hv v e
                  refine hP.1 _ _ s_R_minds_126 _ _ _ _ _ ?_
                  simp (maxSteps := 1000000) (disch := omega) only [g_R_minds_126, slk, List.map_cons, List.map_nil, List.sum_cons, List.sum_nil, vc_i, vc_r, vc_n, vc_l, vc_o, Nat.add_zero, kO_e, kA_e, hdO_a, eq_self, blk, stp, lg, ls0, lk, ls1, ls2, kI_i, kL_l, kR_r, kR_n, kR_o, s1I_i, s2I_i, s1L_l, s2L_l, s1R_r, s1R_n, s1R_o, s1A_a, cmpc, popn, swt, rf_s, rf_n, cat_i, cat_r, cat_n, cat_l, true_and, and_true, List.length_cons, List.length_nil, Nat.zero_add, Int.reduceToNat, Nat.reduceAdd, Nat.reduceDiv, Nat.reduceMod, Nat.reduceMul, Nat.reduceSub, Nat.reduceLeDiff, Nat.reduceLT, Nat.reduceEqDiff, ↓reduceIte, r_gr_wi, r_gl_wi, r_gk_wi, r_gn_wi, r_wi_eq, r_wi_ne, r_wi_nj, r_gi_wr, r_gl_wr, r_gk_wr, r_gn_wr, r_gr_wa, r_gl_wa, r_gk_wa, r_gn_wa, aa_e, as_e, al_e, u_lt, u_le, u_gt, u_ge, u_lt0, u_le0, u_gt0, u_ge0, Classical.not_not, not_true_eq_false, not_false_eq_true, oi_n, oi_m, n_dec, nI_add, pk_mul, n_sub, n_eq, n_le, n_lt, n_eq0, n_lt0, n_le0, n_0lt, n_0le, n_eqm, m_eqn, n_ltm, n_and, n_or, n_xor, n_shl, n_shr, tb1, tb0, bP_1, bP_0, bP_n0, ix_n, inb_n, u_eq, u_eqm, k107 W2.1, hv2]
                  refine ⟨fun q4 => ?_, fun q4 => ?_⟩
                  · refine hP.1 _ _ s_R_minds_137 _ _ _ _ _ ?_
                    simp (maxSteps := 1000000) (disch := omega) only [g_R_minds_137, slk, List.map_cons, List.map_nil, List.sum_cons, List.sum_nil, vc_i, vc_r, vc_n, vc_l, vc_o, Nat.add_zero, kO_e, kA_e, hdO_a, eq_self, blk, stp, lg, ls0, lk, ls1, ls2, kI_i, kL_l, kR_r, kR_n, kR_o, s1I_i, s2I_i, s1L_l, s2L_l, s1R_r, s1R_n, s1R_o, s1A_a, cmpc, popn, swt, rf_s, rf_n, cat_i, cat_r, cat_n, cat_l, true_and, and_true, List.length_cons, List.length_nil, Nat.zero_add, Int.reduceToNat, Nat.reduceAdd, Nat.reduceDiv, Nat.reduceMod, Nat.reduceMul, Nat.reduceSub, Nat.reduceLeDiff, Nat.reduceLT, Nat.reduceEqDiff, ↓reduceIte, r_gr_wi, r_gl_wi, r_gk_wi, r_gn_wi, r_wi_eq, r_wi_ne, r_wi_nj, r_gi_wr, r_gl_wr, r_gk_wr, r_gn_wr, r_gr_wa, r_gl_wa, r_gk_wa, r_gn_wa, aa_e, as_e, al_e, u_lt, u_le, u_gt, u_ge, u_lt0, u_le0, u_gt0, u_ge0, Classical.not_not, not_true_eq_false, not_false_eq_true, oi_n, oi_m, n_dec, nI_add, pk_mul, n_sub, n_eq, n_le, n_lt, n_eq0, n_lt0, n_le0, n_0lt, n_0le, n_eqm, m_eqn, n_ltm, n_and, n_or, n_xor, n_shl, n_shr, tb1, tb0, bP_1, bP_0, bP_n0, ix_n, inb_n, u_eq, u_eqm, hv2]
                    exact fa (¬ v = 0) H2 (fun z => z q4) (by rw [wnP_s e]) FF2
                  · refine hP.1 _ _ s_R_minds_133 _ _ _ _ _ ?_
                    simp (maxSteps := 1000000) (disch := omega) only [g_R_minds_133, slk, List.map_cons, List.map_nil, List.sum_cons, List.sum_nil, vc_i, vc_r, vc_n, vc_l, vc_o, Nat.add_zero, kO_e, kA_e, hdO_a, eq_self, blk, stp, lg, ls0, lk, ls1, ls2, kI_i, kL_l, kR_r, kR_n, kR_o, s1I_i, s2I_i, s1L_l, s2L_l, s1R_r, s1R_n, s1R_o, s1A_a, cmpc, popn, swt, rf_s, rf_n, cat_i, cat_r, cat_n, cat_l, true_and, and_true, List.length_cons, List.length_nil, Nat.zero_add, Int.reduceToNat, Nat.reduceAdd, Nat.reduceDiv, Nat.reduceMod, Nat.reduceMul, Nat.reduceSub, Nat.reduceLeDiff, Nat.reduceLT, Nat.reduceEqDiff, ↓reduceIte, r_gr_wi, r_gl_wi, r_gk_wi, r_gn_wi, r_wi_eq, r_wi_ne, r_wi_nj, r_gi_wr, r_gl_wr, r_gk_wr, r_gn_wr, r_gr_wa, r_gl_wa, r_gk_wa, r_gn_wa, aa_e, as_e, al_e, u_lt, u_le, u_gt, u_ge, u_lt0, u_le0, u_gt0, u_ge0, Classical.not_not, not_true_eq_false, not_false_eq_true, oi_n, oi_m, n_dec, nI_add, pk_mul, n_sub, n_eq, n_le, n_lt, n_eq0, n_lt0, n_le0, n_0lt, n_0le, n_eqm, m_eqn, n_ltm, n_and, n_or, n_xor, n_shl, n_shr, tb1, tb0, bP_1, bP_0, bP_n0, ix_n, inb_n, u_eq, u_eqm, hv2]
                    exact tr (¬ v = 0) H2 q4 (by rw [wnP_s e]) FF2
            have letters : ∀ n3 i, i + n3 = 10 → ∀ H, Ft [31, 32, 33, 34, 35, 36, 37, 40] [128] Hb H → (∀ j, j < i → gi H 128 ((strN 4).getD j 0) = ltF (L.getD l l0).1 ((strN 4).getD j 0)) → P 75 [some (.ref 107), some (.int (nI e)), some (.int (nI m)), some (.int (nI (orN k (fun k => nif (mdQ s L k L.length) (1 <<< k) 0)))), some (.int (nI k)), some (.int (bP (mdQ s L k l))), some (.int (nI l)), some (.int (nI i))] [] H 0 0 := by
              intro n3
              induction n3 using Nat.strongRecOn with
              | _ n3 ih3 =>
                intro i hi H FF hI
                have WH := FF.rw Wb rfl
                have KH := FF.sk Kb rfl
                have LH := FF.lks Lb rfl (fun _ => rfl)
                refine hP.1 _ _ s_R_minds_75 _ _ _ _ _ ?_
                simp (maxSteps := 1000000) (disch := omega) only [g_R_minds_75, slk, List.map_cons, List.map_nil, List.sum_cons, List.sum_nil, vc_i, vc_r, vc_n, vc_l, vc_o, Nat.add_zero, kO_e, kA_e, hdO_a, eq_self, blk, stp, lg, ls0, lk, ls1, ls2, kI_i, kL_l, kR_r, kR_n, kR_o, s1I_i, s2I_i, s1L_l, s2L_l, s1R_r, s1R_n, s1R_o, s1A_a, cmpc, popn, swt, rf_s, rf_n, cat_i, cat_r, cat_n, cat_l, true_and, and_true, List.length_cons, List.length_nil, Nat.zero_add, Int.reduceToNat, Nat.reduceAdd, Nat.reduceDiv, Nat.reduceMod, Nat.reduceMul, Nat.reduceSub, Nat.reduceLeDiff, Nat.reduceLT, Nat.reduceEqDiff, ↓reduceIte, r_gr_wi, r_gl_wi, r_gk_wi, r_gn_wi, r_wi_eq, r_wi_ne, r_wi_nj, r_gi_wr, r_gl_wr, r_gk_wr, r_gn_wr, r_gr_wa, r_gl_wa, r_gk_wa, r_gn_wa, aa_e, as_e, al_e, u_lt, u_le, u_gt, u_ge, u_lt0, u_le0, u_gt0, u_ge0, Classical.not_not, not_true_eq_false, not_false_eq_true, oi_n, oi_m, n_dec, nI_add, pk_mul, n_sub, n_eq, n_le, n_lt, n_eq0, n_lt0, n_le0, n_0lt, n_0le, n_eqm, m_eqn, n_ltm, n_and, n_or, n_xor, n_shl, n_shr, tb1, tb0, bP_1, bP_0, bP_n0, ix_n, inb_n, u_eq, u_eqm, n1_1, true_or, or_true, u_eqm]
                refine ⟨fun hc3 => ?_, fun hc3 => ?_⟩
                · have ei : i = 10 := by omega
                  subst ei
                  exact after H FF hI
                · obtain ⟨tl, tn10⟩ := told_lt i (by omega)
                  have ks := (KH 4 (by omega)).1
                  have lkk := (LH.2 l hl2).1 i (by omega)
                  refine hP.1 _ _ s_R_minds_82 _ _ _ _ _ ?_
                  simp (maxSteps := 1000000) (disch := omega) only [g_R_minds_82, slk, List.map_cons, List.map_nil, List.sum_cons, List.sum_nil, vc_i, vc_r, vc_n, vc_l, vc_o, Nat.add_zero, kO_e, kA_e, hdO_a, eq_self, blk, stp, lg, ls0, lk, ls1, ls2, kI_i, kL_l, kR_r, kR_n, kR_o, s1I_i, s2I_i, s1L_l, s2L_l, s1R_r, s1R_n, s1R_o, s1A_a, cmpc, popn, swt, rf_s, rf_n, cat_i, cat_r, cat_n, cat_l, true_and, and_true, List.length_cons, List.length_nil, Nat.zero_add, Int.reduceToNat, Nat.reduceAdd, Nat.reduceDiv, Nat.reduceMod, Nat.reduceMul, Nat.reduceSub, Nat.reduceLeDiff, Nat.reduceLT, Nat.reduceEqDiff, ↓reduceIte, r_gr_wi, r_gl_wi, r_gk_wi, r_gn_wi, r_wi_eq, r_wi_ne, r_wi_nj, r_gi_wr, r_gl_wr, r_gk_wr, r_gn_wr, r_gr_wa, r_gl_wa, r_gk_wa, r_gn_wa, aa_e, as_e, al_e, u_lt, u_le, u_gt, u_ge, u_lt0, u_le0, u_gt0, u_ge0, Classical.not_not, not_true_eq_false, not_false_eq_true, oi_n, oi_m, n_dec, nI_add, pk_mul, n_sub, n_eq, n_le, n_lt, n_eq0, n_lt0, n_le0, n_0lt, n_0le, n_eqm, m_eqn, n_ltm, n_and, n_or, n_xor, n_shl, n_shr, tb1, tb0, bP_1, bP_0, bP_n0, ix_n, inb_n, u_eq, u_eqm, k107 WH.1, f107_26 WH.1, k128 WH.1, f107_59 WH.1, k143 WH.1, k143 WH.1, k128 WH.1, ks, lkk]
                  refine wc (c_S_charAt KH (i := 4) (by omega) (j := i) (by omega)) ⟨by omega, by omega⟩ ?_
                  simp (maxSteps := 1000000) (disch := omega) only [slk, List.map_cons, List.map_nil, List.sum_cons, List.sum_nil, vc_i, vc_r, vc_n, vc_l, vc_o, Nat.add_zero, kO_e, kA_e, hdO_a, eq_self, blk, stp, lg, ls0, lk, ls1, ls2, kI_i, kL_l, kR_r, kR_n, kR_o, s1I_i, s2I_i, s1L_l, s2L_l, s1R_r, s1R_n, s1R_o, s1A_a, cmpc, popn, swt, rf_s, rf_n, cat_i, cat_r, cat_n, cat_l, true_and, and_true, List.length_cons, List.length_nil, Nat.zero_add, Int.reduceToNat, Nat.reduceAdd, Nat.reduceDiv, Nat.reduceMod, Nat.reduceMul, Nat.reduceSub, Nat.reduceLeDiff, Nat.reduceLT, Nat.reduceEqDiff, ↓reduceIte, r_gr_wi, r_gl_wi, r_gk_wi, r_gn_wi, r_wi_eq, r_wi_ne, r_wi_nj, r_gi_wr, r_gl_wr, r_gk_wr, r_gn_wr, r_gr_wa, r_gl_wa, r_gk_wa, r_gn_wa, aa_e, as_e, al_e, u_lt, u_le, u_gt, u_ge, u_lt0, u_le0, u_gt0, u_ge0, Classical.not_not, not_true_eq_false, not_false_eq_true, oi_n, oi_m, n_dec, nI_add, pk_mul, n_sub, n_eq, n_le, n_lt, n_eq0, n_lt0, n_le0, n_0lt, n_0le, n_eqm, m_eqn, n_ltm, n_and, n_or, n_xor, n_shl, n_shr, tb1, tb0, bP_1, bP_0, bP_n0, ix_n, inb_n, u_eq, u_eqm, k107 WH.1, f107_26 WH.1, k128 WH.1, f107_59 WH.1, k143 WH.1, k143 WH.1, k128 WH.1, ks, lkk]
                  refine ih3 (n3 - 1) (by omega) (i + 1) (by omega) _ (FF.trans (((Fx.refl _ _ H).wi _ rfl).ft)) ?_
                  intro j hj
                  by_cases q : j = i
                  · subst q
                    rw [r_wi_eq]
                  · have tn := told_ne i (by omega) j (by omega)
                    rw [r_wi_nj _ _ _ tn]
                    exact hI j (by omega)
            refine hP.1 _ _ s_R_minds_72 _ _ _ _ _ ?_
            simp (maxSteps := 1000000) (disch := omega) only [g_R_minds_72, slk, List.map_cons, List.map_nil, List.sum_cons, List.sum_nil, vc_i, vc_r, vc_n, vc_l, vc_o, Nat.add_zero, kO_e, kA_e, hdO_a, eq_self, blk, stp, lg, ls0, lk, ls1, ls2, kI_i, kL_l, kR_r, kR_n, kR_o, s1I_i, s2I_i, s1L_l, s2L_l, s1R_r, s1R_n, s1R_o, s1A_a, cmpc, popn, swt, rf_s, rf_n, cat_i, cat_r, cat_n, cat_l, true_and, and_true, List.length_cons, List.length_nil, Nat.zero_add, Int.reduceToNat, Nat.reduceAdd, Nat.reduceDiv, Nat.reduceMod, Nat.reduceMul, Nat.reduceSub, Nat.reduceLeDiff, Nat.reduceLT, Nat.reduceEqDiff, ↓reduceIte, r_gr_wi, r_gl_wi, r_gk_wi, r_gn_wi, r_wi_eq, r_wi_ne, r_wi_nj, r_gi_wr, r_gl_wr, r_gk_wr, r_gn_wr, r_gr_wa, r_gl_wa, r_gk_wa, r_gn_wa, aa_e, as_e, al_e, u_lt, u_le, u_gt, u_ge, u_lt0, u_le0, u_gt0, u_ge0, Classical.not_not, not_true_eq_false, not_false_eq_true, oi_n, oi_m, n_dec, nI_add, pk_mul, n_sub, n_eq, n_le, n_lt, n_eq0, n_lt0, n_le0, n_0lt, n_0le, n_eqm, m_eqn, n_ltm, n_and, n_or, n_xor, n_shl, n_shr, tb1, tb0, bP_1, bP_0, bP_n0, ix_n, inb_n, u_eq, u_eqm, n1_1, true_or, or_true, u_eqm]
            exact letters 10 0 rfl H FF (fun j hj => absurd hj (Nat.not_lt_zero _))
        have go := inner _ 0 (Nat.zero_add _) H x7 FF
        rw [bP_t (p := mdQ s L k 0) (fun z hz => absurd hz (Nat.not_lt_zero _))] at go
        refine hP.1 _ _ s_R_minds_52 _ _ _ _ _ ?_
        simp (maxSteps := 1000000) (disch := omega) only [g_R_minds_52, slk, List.map_cons, List.map_nil, List.sum_cons, List.sum_nil, vc_i, vc_r, vc_n, vc_l, vc_o, Nat.add_zero, kO_e, kA_e, hdO_a, eq_self, blk, stp, lg, ls0, lk, ls1, ls2, kI_i, kL_l, kR_r, kR_n, kR_o, s1I_i, s2I_i, s1L_l, s2L_l, s1R_r, s1R_n, s1R_o, s1A_a, cmpc, popn, swt, rf_s, rf_n, cat_i, cat_r, cat_n, cat_l, true_and, and_true, List.length_cons, List.length_nil, Nat.zero_add, Int.reduceToNat, Nat.reduceAdd, Nat.reduceDiv, Nat.reduceMod, Nat.reduceMul, Nat.reduceSub, Nat.reduceLeDiff, Nat.reduceLT, Nat.reduceEqDiff, ↓reduceIte, r_gr_wi, r_gl_wi, r_gk_wi, r_gn_wi, r_wi_eq, r_wi_ne, r_wi_nj, r_gi_wr, r_gl_wr, r_gk_wr, r_gn_wr, r_gr_wa, r_gl_wa, r_gk_wa, r_gn_wa, aa_e, as_e, al_e, u_lt, u_le, u_gt, u_ge, u_lt0, u_le0, u_gt0, u_ge0, Classical.not_not, not_true_eq_false, not_false_eq_true, oi_n, oi_m, n_dec, nI_add, pk_mul, n_sub, n_eq, n_le, n_lt, n_eq0, n_lt0, n_le0, n_0lt, n_0le, n_eqm, m_eqn, n_ltm, n_and, n_or, n_xor, n_shl, n_shr, tb1, tb0, bP_1, bP_0, bP_n0, ix_n, inb_n, u_eq, u_eqm, n1_1, true_or, or_true, u_eqm]
        exact go
    exact outer _ 0 (Nat.zero_add _) _ _ _ _ (Ft.refl _ _ _)
  refine hP.1 _ _ s_R_minds_0 _ _ _ _ _ ?_
  simp (maxSteps := 1000000) (disch := omega) only [g_R_minds_0, slk, List.map_cons, List.map_nil, List.sum_cons, List.sum_nil, vc_i, vc_r, vc_n, vc_l, vc_o, Nat.add_zero, kO_e, kA_e, hdO_a, eq_self, blk, stp, lg, ls0, lk, ls1, ls2, kI_i, kL_l, kR_r, kR_n, kR_o, s1I_i, s2I_i, s1L_l, s2L_l, s1R_r, s1R_n, s1R_o, s1A_a, cmpc, popn, swt, rf_s, rf_n, cat_i, cat_r, cat_n, cat_l, true_and, and_true, List.length_cons, List.length_nil, Nat.zero_add, Int.reduceToNat, Nat.reduceAdd, Nat.reduceDiv, Nat.reduceMod, Nat.reduceMul, Nat.reduceSub, Nat.reduceLeDiff, Nat.reduceLT, Nat.reduceEqDiff, ↓reduceIte, r_gr_wi, r_gl_wi, r_gk_wi, r_gn_wi, r_wi_eq, r_wi_ne, r_wi_nj, r_gi_wr, r_gl_wr, r_gk_wr, r_gn_wr, r_gr_wa, r_gl_wa, r_gk_wa, r_gn_wa, aa_e, as_e, al_e, u_lt, u_le, u_gt, u_ge, u_lt0, u_le0, u_gt0, u_ge0, Classical.not_not, not_true_eq_false, not_false_eq_true, oi_n, oi_m, n_dec, nI_add, pk_mul, n_sub, n_eq, n_le, n_lt, n_eq0, n_lt0, n_le0, n_0lt, n_0le, n_eqm, m_eqn, n_ltm, n_and, n_or, n_xor, n_shl, n_shr, tb1, tb0, bP_1, bP_0, bP_n0, ix_n, inb_n, u_eq, u_eqm, k107 W.1, n1_1, true_or, or_true, u_eqm]
  refine wc (c_R_isElder W1 he) ⟨by omega, by omega⟩ ?_
  simp (maxSteps := 1000000) (disch := omega) only [slk, List.map_cons, List.map_nil, List.sum_cons, List.sum_nil, vc_i, vc_r, vc_n, vc_l, vc_o, Nat.add_zero, kO_e, kA_e, hdO_a, eq_self, blk, stp, lg, ls0, lk, ls1, ls2, kI_i, kL_l, kR_r, kR_n, kR_o, s1I_i, s2I_i, s1L_l, s2L_l, s1R_r, s1R_n, s1R_o, s1A_a, cmpc, popn, swt, rf_s, rf_n, cat_i, cat_r, cat_n, cat_l, true_and, and_true, List.length_cons, List.length_nil, Nat.zero_add, Int.reduceToNat, Nat.reduceAdd, Nat.reduceDiv, Nat.reduceMod, Nat.reduceMul, Nat.reduceSub, Nat.reduceLeDiff, Nat.reduceLT, Nat.reduceEqDiff, ↓reduceIte, r_gr_wi, r_gl_wi, r_gk_wi, r_gn_wi, r_wi_eq, r_wi_ne, r_wi_nj, r_gi_wr, r_gl_wr, r_gk_wr, r_gn_wr, r_gr_wa, r_gl_wa, r_gk_wa, r_gn_wa, aa_e, as_e, al_e, u_lt, u_le, u_gt, u_ge, u_lt0, u_le0, u_gt0, u_ge0, Classical.not_not, not_true_eq_false, not_false_eq_true, oi_n, oi_m, n_dec, nI_add, pk_mul, n_sub, n_eq, n_le, n_lt, n_eq0, n_lt0, n_le0, n_0lt, n_0le, n_eqm, m_eqn, n_ltm, n_and, n_or, n_xor, n_shl, n_shr, tb1, tb0, bP_1, bP_0, bP_n0, ix_n, inb_n, u_eq, u_eqm, k107 W.1, n1_1, true_or, or_true, u_eqm]
  refine ⟨fun hc => bad (fun q => by have := q.1; omega), fun hc1 => ?_⟩
  refine hP.1 _ _ s_R_minds_13 _ _ _ _ _ ?_
  simp (maxSteps := 1000000) (disch := omega) only [g_R_minds_13, slk, List.map_cons, List.map_nil, List.sum_cons, List.sum_nil, vc_i, vc_r, vc_n, vc_l, vc_o, Nat.add_zero, kO_e, kA_e, hdO_a, eq_self, blk, stp, lg, ls0, lk, ls1, ls2, kI_i, kL_l, kR_r, kR_n, kR_o, s1I_i, s2I_i, s1L_l, s2L_l, s1R_r, s1R_n, s1R_o, s1A_a, cmpc, popn, swt, rf_s, rf_n, cat_i, cat_r, cat_n, cat_l, true_and, and_true, List.length_cons, List.length_nil, Nat.zero_add, Int.reduceToNat, Nat.reduceAdd, Nat.reduceDiv, Nat.reduceMod, Nat.reduceMul, Nat.reduceSub, Nat.reduceLeDiff, Nat.reduceLT, Nat.reduceEqDiff, ↓reduceIte, r_gr_wi, r_gl_wi, r_gk_wi, r_gn_wi, r_wi_eq, r_wi_ne, r_wi_nj, r_gi_wr, r_gl_wr, r_gk_wr, r_gn_wr, r_gr_wa, r_gl_wa, r_gk_wa, r_gn_wa, aa_e, as_e, al_e, u_lt, u_le, u_gt, u_ge, u_lt0, u_le0, u_gt0, u_ge0, Classical.not_not, not_true_eq_false, not_false_eq_true, oi_n, oi_m, n_dec, nI_add, pk_mul, n_sub, n_eq, n_le, n_lt, n_eq0, n_lt0, n_le0, n_0lt, n_0le, n_eqm, m_eqn, n_ltm, n_and, n_or, n_xor, n_shl, n_shr, tb1, tb0, bP_1, bP_0, bP_n0, ix_n, inb_n, u_eq, u_eqm, k107 W.1, n1_1, true_or, or_true, u_eqm]
  refine wc (c_R_isMatter W1 hm) ⟨by omega, by omega⟩ ?_
  simp (maxSteps := 1000000) (disch := omega) only [slk, List.map_cons, List.map_nil, List.sum_cons, List.sum_nil, vc_i, vc_r, vc_n, vc_l, vc_o, Nat.add_zero, kO_e, kA_e, hdO_a, eq_self, blk, stp, lg, ls0, lk, ls1, ls2, kI_i, kL_l, kR_r, kR_n, kR_o, s1I_i, s2I_i, s1L_l, s2L_l, s1R_r, s1R_n, s1R_o, s1A_a, cmpc, popn, swt, rf_s, rf_n, cat_i, cat_r, cat_n, cat_l, true_and, and_true, List.length_cons, List.length_nil, Nat.zero_add, Int.reduceToNat, Nat.reduceAdd, Nat.reduceDiv, Nat.reduceMod, Nat.reduceMul, Nat.reduceSub, Nat.reduceLeDiff, Nat.reduceLT, Nat.reduceEqDiff, ↓reduceIte, r_gr_wi, r_gl_wi, r_gk_wi, r_gn_wi, r_wi_eq, r_wi_ne, r_wi_nj, r_gi_wr, r_gl_wr, r_gk_wr, r_gn_wr, r_gr_wa, r_gl_wa, r_gk_wa, r_gn_wa, aa_e, as_e, al_e, u_lt, u_le, u_gt, u_ge, u_lt0, u_le0, u_gt0, u_ge0, Classical.not_not, not_true_eq_false, not_false_eq_true, oi_n, oi_m, n_dec, nI_add, pk_mul, n_sub, n_eq, n_le, n_lt, n_eq0, n_lt0, n_le0, n_0lt, n_0le, n_eqm, m_eqn, n_ltm, n_and, n_or, n_xor, n_shl, n_shr, tb1, tb0, bP_1, bP_0, bP_n0, ix_n, inb_n, u_eq, u_eqm, k107 W.1, n1_1, true_or, or_true, u_eqm]
  refine ⟨fun hc => good ⟨hc1, by omega⟩, fun hc => bad (fun q => by have := q.2; omega)⟩
end
