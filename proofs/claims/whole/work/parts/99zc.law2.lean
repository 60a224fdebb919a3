/-! ===== the class: law ===== -/
theorem n_T_law : mN 15 = 1 := rfl
theorem l_T_law : mL 15 = 1 := rfl
theorem r_T_law : mR 15 = some .int := rfl
section
variable {h : AH} {s : St} {d c : Nat} {bm : Nat → Nat}
theorem ag_law (W : RH h s) (c0 : lawC s) {m : Nat} (hm : m < s 107 19) : Ag s (lawS s) m := by
  have bl := rs_l W
  have b2 := rs_laws W
  have b3 := rs_minds W
  have n8 := c0.1
  have w : ∀ mind l k lb, k ≠ s 107 29 → wtS (lawS s) mind l k lb = wtS s mind l k lb := fun mind l k lb hk => by
    unfold wtS
    rw [show txB (lawS s) k = txB (keepS s (s 107 29)) k from rfl, show (lawS s) 127 k = keepS s (s 107 29) 127 k from rfl, (txB_other bl hk).1, (txB_other bl hk).2]
  refine ⟨⟨rfl, fun _ => rfl⟩, ⟨rfl, rfl, rfl⟩, fun lb ps => ?_, fun e lb ps he => ?_, fun _ _ => rfl, fun _ _ _ _ _ _ => rfl, fun _ _ _ _ _ => Iff.rfl, fun _ => Iff.rfl, fun ed rs e => trI_c _ (fun k hk => ⟨rfl, rfl, fun _ => Iff.rfl⟩)⟩
  · have q := rs_law W hm
    show (if s 116 m = 4294967295 then none else wtS (lawS s) false (ltF ps) (s 116 m) lb) = if s 116 m = 4294967295 then none else wtS s false (ltF ps) (s 116 m) lb
    by_cases z : s 116 m = 4294967295
    · rw [if_pos z, if_pos z]
    · rw [if_neg z, if_neg z, w _ _ _ _ (by omega)]
  · have q := rs_md W he
    show (if s 118 e = 4294967295 then none else wtS (lawS s) true (ltF ps) (8 + s 118 e) lb) = if s 118 e = 4294967295 then none else wtS s true (ltF ps) (8 + s 118 e) lb
    by_cases z : s 118 e = 4294967295
    · rw [if_pos z, if_pos z]
    · rw [if_neg z, if_neg z, w _ _ _ _ (by omega)]
theorem fg_law {H1 H2 H3 : AH} {k : Nat} (gn2 : gn H2 = gn H1 + 3) (o2 : ∀ a, a < gn H1 → gk H2 a = gk H1 a ∧ gi H2 a = gi H1 a ∧ gr H2 a = gr H1 a ∧ gl H2 a = gl H1 a)
    (e3 : H3 = wi (wi (wr H2 40 k (some (gn H1))) 20 15 (nI (k + 1))) 35 1 (nI 0)) : Fg (fun a => a = 20 ∨ a = 35) (fun a j => a = 40 ∧ j = k) H1 H3 := by
  have F12 : Fg (fun a => a = 20 ∨ a = 35) (fun a j => a = 40 ∧ j = k) H1 H2 := ⟨fun a z => (o2 a z).1, by rw [gn2]; omega, fun a z _ => (o2 a z).2.1, fun a j z _ => by rw [(o2 a z).2.2.1]⟩
  refine F12.trans ?_
  rw [e3]
  exact ((Fg.wr H2 40 k (some (gn H1))).mono (fun a _ q => q.elim) (fun a j _ y => y)).trans ((((Fp.refl (fun a => a = 20 ∨ a = 35) (wr H2 40 k (some (gn H1)))).wi (Or.inl rfl) _ _).wi (Or.inr rfl) _ _).fg.mono (fun a _ q => q) (fun a j _ y => y.elim))
theorem ci_law (W : RH h s) {H1 H2 H3 : AH} (I : CI H1 s bm c) (c0 : lawC s) {cs : List Cl} {q : Nat} (hx : txS (txB (keepS s (s 107 29)) (s 107 29)) (s 107 28) (lbs false) (als false) = (q, some cs)) (gn2 : gn H2 = gn H1 + 3) (T : TXT H2 (gn H1) cs) (o2 : ∀ a, a < gn H1 → gk H2 a = gk H1 a ∧ gi H2 a = gi H1 a ∧ gr H2 a = gr H1 a ∧ gl H2 a = gl H1 a)
    (e3 : H3 = wi (wi (wr H2 40 (s 107 29) (some (gn H1))) 20 15 (nI (s 107 29 + 1))) 35 1 (nI 0)) : CI H3 (lawS s) bm c := by
  have b0 := rs_m W
  have bl := rs_l W
  have b2 := rs_laws W
  have b3 := rs_minds W
  have n8 := c0.1
  have g := (ci_L I).2.2
  have c4 := (ci_ct I).2.2.2.2.2
  have F12 : Fg (fun a => a = 20 ∨ a = 35) (fun a j => a = 40 ∧ j = s 107 29) H1 H2 := ⟨fun a z => (o2 a z).1, by rw [gn2]; omega, fun a z _ => (o2 a z).2.1, fun a j z _ => by rw [(o2 a z).2.2.1]⟩
  have F23 : Fg (fun a => a = 20 ∨ a = 35) (fun a j => a = 40 ∧ j = s 107 29) H2 H3 := by
    rw [e3]
    exact ((Fg.wr H2 40 (s 107 29) (some (gn H1))).mono (fun a _ q => q.elim) (fun a j _ y => y)).trans ((((Fp.refl (fun a => a = 20 ∨ a = 35) (wr H2 40 (s 107 29) (some (gn H1)))).wi (Or.inl rfl) _ _).wi (Or.inr rfl) _ _).fg.mono (fun a _ q => q) (fun a j _ y => y.elim))
  have FB := F12.trans F23
  have TX : TxA H3 s := Fg.txa (s := s) FB g (ci_tx I) (fun t ht a q => by have := isTx_b (ci_tx I) ht; omega) (fun t ht j y => by first | exact y.elim | (have := isTx_b (ci_tx I) ht; omega)) (fun j _ y => (by first | exact y.elim | omega)) (fun j _ y => (by first | exact y.elim | omega))
  have DD : DJ H3 s bm := Fg.dj (s := s) FB g (ci_dj I) (fun j _ y => (by first | exact y.elim | omega)) (fun j _ y => (by first | exact y.elim | omega))
  have rn : gr H3 40 (s 107 29) = some (gn H1) := by
    rw [e3]
    exact r_wr_eq _ _ _ _
  have T3 : TXT H3 (gn H1) cs := F23.txt T (fun a q => by omega) (fun j y => by omega)
  have tw : TWC H3 s := Fg.twc (s := s) FB g (ci_tw I) (fun a ha q => by have := ta_b ha; unfold isT at ha; omega)
  have i20 : ∀ j, j ≠ 15 → gi H3 20 j = gi H1 20 j := fun j hj => by
    rw [e3, r_wi_ne _ _ _ _ (by omega), r_wi_nj _ _ _ hj]
    exact congrFun (o2 20 (by omega)).2.1 j
  have iF : gi H3 20 15 = nI (s 107 29 + 1) := by
    rw [e3, r_wi_ne _ _ _ _ (by omega), r_wi_eq]
  have ct := ci_ct I
  refine ⟨FB.lay (ci_L I) (fun a j y => by first | exact y.elim | (unfold isT; omega)), Fg.cc (s := s) FB g (ci_C I) (fun a q => by omega) (fun j y => (by first | exact y.elim | omega)) (fun j _ y => (by first | exact y.elim | omega)) (fun e he => rs_md W he), ⟨(i20 13 (by omega)).trans ct.1, (i20 14 (by omega)).trans ct.2.1, iF, (i20 16 (by omega)).trans ct.2.2.2.1, (i20 17 (by omega)).trans ct.2.2.2.2.1, ct.2.2.2.2.2⟩, Fg.mt (s := s) FB g (ci_m I) (fun m hm => rs_law W hm) (fun m hm a q => by have := ci_b I hm; omega) (fun m hm a j y => by first | exact y.elim | (have := ci_b I hm; omega)) (fun j _ y => (by first | exact y.elim | omega)) (fun j _ y => (by first | exact y.elim | omega)), (show BO s bm from ci_bo I), ⟨fun k hk => ?_, fun k hk => ?_⟩, fun t ht m hm => ?_, ⟨by rw [e3]; exact r_wi_eq _ _ _ _, fun j hj => absurd (show j < 0 from hj) (Nat.not_lt_zero _)⟩, Fg.plc (s := s) FB g (ci_pl I) (fun a q => by omega), Fg.gfc (s := s) FB g (ci_gf I) (by rw [FB.2.2.1 61 (by omega) (fun q => by omega)]) (fun a q => by omega), Fg.asc (s := s) FB g (ci_as I) (fun a q => by omega), fun A hA => ⟨(tw A hA).1, by obtain ⟨su, a, b⟩ := (tw A hA).2; exact ⟨su, a, b⟩⟩, std_ag W FB g c4 (ci_st I) rfl (fun i hi => ag_law W c0 (by omega)) (fun j hj => rfl) (fun j hj a q => by have e : tOf j = 75 + 8 * j := rfl; omega) (fun j hj y => by have e : tOf j = 75 + 8 * j := rfl; omega), ⟨(ci_pu I).1, (ci_pu I).2.1, (ci_pu I).2.2.1, to_law W (ci_pu I).2.2.2.1 c0, (ci_pu I).2.2.2.2⟩⟩
  · have hk2 : k < s 107 29 + 1 := hk
    by_cases z : k = s 107 29
    · refine ⟨gn H1, cs, q, by rw [z]; exact rn, T3, ?_⟩
      rw [z]
      show txS (txB (keepS s (s 107 29)) (s 107 29)) (keepS s (s 107 29) 127 (s 107 29)) _ _ = _
      rw [show keepS s (s 107 29) 127 (s 107 29) = s 107 28 from if_pos rfl]
      exact hx
    · obtain ⟨t, cs', q', a, b, e⟩ := TX.1 k (by omega)
      refine ⟨t, cs', q', a, b, ?_⟩
      show txS (txB (keepS s (s 107 29)) (k)) (keepS s (s 107 29) 127 (k)) _ _ = _
      rw [(txB_other bl (by omega)).1, (txB_other bl (by omega)).2]
      exact e
  · have hk2 : k < s 107 30 := hk
    obtain ⟨t, cs', q', a, b, e⟩ := TX.2 k hk2
    refine ⟨t, cs', q', a, b, ?_⟩
    show txS (txB (keepS s (s 107 29)) (8 + k)) (keepS s (s 107 29) 127 (8 + k)) _ _ = _
    rw [(txB_other bl (by omega)).1, (txB_other bl (by omega)).2]
    exact e
  · rcases ht with ⟨k, hk, e⟩ | ⟨k, hk, e⟩
    · have hk2 : k < s 107 29 + 1 := hk
      by_cases z : k = s 107 29
      · rw [z, rn] at e
        cases e
        have := ci_b I (m := m) hm
        omega
      · exact DD t (Or.inl ⟨k, by omega, e⟩) m hm
    · exact DD t (Or.inr ⟨k, hk, e⟩) m hm
theorem c_T_law (W : RH h s) {h2 : AH} (K : SK h2) (I : CI h2 s bm c) : Mz (d + 48) 15 [.ref 20] h2 3 410 (PC2 (iff1 (lawC s) (nI (s 107 29))) (ifS (lawC s) (lawS s) s) h2) := by
  have bl := rs_l W
  have b2 := rs_laws W
  have b3 := rs_minds W
  have g := (ci_L I).2.2
  have L := ci_L I
  refine mz_in (l := [some (.ref 20)]) mk_T_law n_T_law rfl l_T_law rfl (Nat.le_of_ble_eq_true rfl) fun P hP => ?_
  have no : ∀ H, ¬ lawC s → FrC h2 H → CI H s bm c → P 21 [some (.ref 20)] [] H 0 0 := by
    intro H q F J
    refine hP.1 _ _ s_T_law_21 _ _ _ _ _ ?_
    simp (maxSteps := 1000000) (disch := omega) only [g_T_law_21, slk, List.map_cons, List.map_nil, List.sum_cons, List.sum_nil, vc_i, vc_r, vc_n, vc_l, vc_o, Nat.add_zero, kO_e, kA_e, hdO_a, eq_self, blk, stp, lg, ls0, lk, ls1, ls2, kI_i, kL_l, kR_r, kR_n, kR_o, s1I_i, s2I_i, s1L_l, s2L_l, s1R_r, s1R_n, s1R_o, s1A_a, cmpc, popn, swt, rf_s, rf_n, cat_i, cat_r, cat_n, cat_l, true_and, and_true, List.length_cons, List.length_nil, Nat.zero_add, Int.reduceToNat, Nat.reduceAdd, Nat.reduceDiv, Nat.reduceMod, Nat.reduceMul, Nat.reduceSub, Nat.reduceLeDiff, Nat.reduceLT, Nat.reduceEqDiff, ↓reduceIte, r_gr_wi, r_gl_wi, r_gk_wi, r_gn_wi, r_wi_eq, r_wi_ne, r_wi_nj, r_gi_wr, r_gl_wr, r_gk_wr, r_gn_wr, r_gr_wa, r_gl_wa, r_gk_wa, r_gn_wa, aa_e, as_e, al_e, u_lt, u_le, u_gt, u_ge, u_lt0, u_le0, u_gt0, u_ge0, Classical.not_not, not_true_eq_false, not_false_eq_true, oi_n, oi_m, n_dec, nI_add, pk_mul, n_sub, n_eq, n_le, n_lt, n_eq0, n_lt0, n_le0, n_0lt, n_0le, n_eqm, m_eqn, n_ltm, n_and, n_or, n_xor, n_shl, n_shr, tb1, tb0, bP_1, bP_0, bP_n0, ix_n, inb_n, u_eq, u_eqm]
    exact lzK r_T_law q F J
  have hB : ∀ j, j < s 107 28 → gi h2 36 j = nI (txB (keepS s (s 107 29)) (s 107 29) j) ∧ 1 ≤ txB (keepS s (s 107 29)) (s 107 29) j ∧ txB (keepS s (s 107 29)) (s 107 29) j ≤ 255 := fun j hj => by
    rw [txB_keep bl hj]
    exact ⟨(ci_tp I).2 j hj, rs_tape W hj⟩
  have cf := c_Re_faultAs (d := d) false L K (ci_tp I).1 bl hB
  rw [bP_f (by decide)] at cf
  refine hP.1 _ _ s_T_law_0 _ _ _ _ _ ?_
  simp (maxSteps := 1000000) (disch := omega) only [g_T_law_0, slk, List.map_cons, List.map_nil, List.sum_cons, List.sum_nil, vc_i, vc_r, vc_n, vc_l, vc_o, Nat.add_zero, kO_e, kA_e, hdO_a, eq_self, blk, stp, lg, ls0, lk, ls1, ls2, kI_i, kL_l, kR_r, kR_n, kR_o, s1I_i, s2I_i, s1L_l, s2L_l, s1R_r, s1R_n, s1R_o, s1A_a, cmpc, popn, swt, rf_s, rf_n, cat_i, cat_r, cat_n, cat_l, true_and, and_true, List.length_cons, List.length_nil, Nat.zero_add, Int.reduceToNat, Nat.reduceAdd, Nat.reduceDiv, Nat.reduceMod, Nat.reduceMul, Nat.reduceSub, Nat.reduceLeDiff, Nat.reduceLT, Nat.reduceEqDiff, ↓reduceIte, r_gr_wi, r_gl_wi, r_gk_wi, r_gn_wi, r_wi_eq, r_wi_ne, r_wi_nj, r_gi_wr, r_gl_wr, r_gk_wr, r_gn_wr, r_gr_wa, r_gl_wa, r_gk_wa, r_gn_wa, aa_e, as_e, al_e, u_lt, u_le, u_gt, u_ge, u_lt0, u_le0, u_gt0, u_ge0, Classical.not_not, not_true_eq_false, not_false_eq_true, oi_n, oi_m, n_dec, nI_add, pk_mul, n_sub, n_eq, n_le, n_lt, n_eq0, n_lt0, n_le0, n_0lt, n_0le, n_eqm, m_eqn, n_ltm, n_and, n_or, n_xor, n_shl, n_shr, tb1, tb0, bP_1, bP_0, bP_n0, ix_n, inb_n, u_eq, u_eqm, k20 L, k20 L, f20_3 L, (ci_ct I).2.2.1]
  refine ⟨fun z => no _ (fun y => y.1 (by omega)) (FrC.refl _) I, fun z => ?_⟩
  have n8 : ¬ s 107 29 = 8 := by omega
  refine hP.1 _ _ s_T_law_9 _ _ _ _ _ ?_
  simp (maxSteps := 1000000) (disch := omega) only [g_T_law_9, slk, List.map_cons, List.map_nil, List.sum_cons, List.sum_nil, vc_i, vc_r, vc_n, vc_l, vc_o, Nat.add_zero, kO_e, kA_e, hdO_a, eq_self, blk, stp, lg, ls0, lk, ls1, ls2, kI_i, kL_l, kR_r, kR_n, kR_o, s1I_i, s2I_i, s1L_l, s2L_l, s1R_r, s1R_n, s1R_o, s1A_a, cmpc, popn, swt, rf_s, rf_n, cat_i, cat_r, cat_n, cat_l, true_and, and_true, List.length_cons, List.length_nil, Nat.zero_add, Int.reduceToNat, Nat.reduceAdd, Nat.reduceDiv, Nat.reduceMod, Nat.reduceMul, Nat.reduceSub, Nat.reduceLeDiff, Nat.reduceLT, Nat.reduceEqDiff, ↓reduceIte, r_gr_wi, r_gl_wi, r_gk_wi, r_gn_wi, r_wi_eq, r_wi_ne, r_wi_nj, r_gi_wr, r_gl_wr, r_gk_wr, r_gn_wr, r_gr_wa, r_gl_wa, r_gk_wa, r_gn_wa, aa_e, as_e, al_e, u_lt, u_le, u_gt, u_ge, u_lt0, u_le0, u_gt0, u_ge0, Classical.not_not, not_true_eq_false, not_false_eq_true, oi_n, oi_m, n_dec, nI_add, pk_mul, n_sub, n_eq, n_le, n_lt, n_eq0, n_lt0, n_le0, n_0lt, n_0le, n_eqm, m_eqn, n_ltm, n_and, n_or, n_xor, n_shl, n_shr, tb1, tb0, bP_1, bP_0, bP_n0, ix_n, inb_n, u_eq, u_eqm, k20 L, f20_3 L, k37 L, k20 L, f20_3 L, (ci_ct I).2.2.1]
  refine ⟨_, _, _, cf, ⟨by omega, by omega⟩, ?_⟩
  rintro r H1 ⟨rfl, F, fl, ok, pn⟩
  have J := ci_37 W I F
  have FC := frc_37 F g fl
  have g1 := (ci_L J).2.2
  simp (maxSteps := 1000000) (disch := omega) only [slk, List.map_cons, List.map_nil, List.sum_cons, List.sum_nil, vc_i, vc_r, vc_n, vc_l, vc_o, Nat.add_zero, kO_e, kA_e, hdO_a, eq_self, blk, stp, lg, ls0, lk, ls1, ls2, kI_i, kL_l, kR_r, kR_n, kR_o, s1I_i, s2I_i, s1L_l, s2L_l, s1R_r, s1R_n, s1R_o, s1A_a, cmpc, popn, swt, rf_s, rf_n, cat_i, cat_r, cat_n, cat_l, true_and, and_true, List.length_cons, List.length_nil, Nat.zero_add, Int.reduceToNat, Nat.reduceAdd, Nat.reduceDiv, Nat.reduceMod, Nat.reduceMul, Nat.reduceSub, Nat.reduceLeDiff, Nat.reduceLT, Nat.reduceEqDiff, ↓reduceIte, r_gr_wi, r_gl_wi, r_gk_wi, r_gn_wi, r_wi_eq, r_wi_ne, r_wi_nj, r_gi_wr, r_gl_wr, r_gk_wr, r_gn_wr, r_gr_wa, r_gl_wa, r_gk_wa, r_gn_wa, aa_e, as_e, al_e, u_lt, u_le, u_gt, u_ge, u_lt0, u_le0, u_gt0, u_ge0, Classical.not_not, not_true_eq_false, not_false_eq_true, oi_n, oi_m, n_dec, nI_add, pk_mul, n_sub, n_eq, n_le, n_lt, n_eq0, n_lt0, n_le0, n_0lt, n_0le, n_eqm, m_eqn, n_ltm, n_and, n_or, n_xor, n_shl, n_shr, tb1, tb0, bP_1, bP_0, bP_n0, ix_n, inb_n, u_eq, u_eqm, k20 L, f20_3 L, k37 L, k20 L, f20_3 L, (ci_ct I).2.2.1]
  cases et : txS (txB (keepS s (s 107 29)) (s 107 29)) (s 107 28) (lbs false) (als false) with
  | mk p o =>
    rw [et] at ok pn
    dsimp only at pn
    cases o with
    | none =>
      have nC : ¬ lawC s := fun y => by
        obtain ⟨p2, cs, e⟩ := y.2
        rw [et] at e
        cases e
      simp (maxSteps := 1000000) (disch := omega) only [slk, List.map_cons, List.map_nil, List.sum_cons, List.sum_nil, vc_i, vc_r, vc_n, vc_l, vc_o, Nat.add_zero, kO_e, kA_e, hdO_a, eq_self, blk, stp, lg, ls0, lk, ls1, ls2, kI_i, kL_l, kR_r, kR_n, kR_o, s1I_i, s2I_i, s1L_l, s2L_l, s1R_r, s1R_n, s1R_o, s1A_a, cmpc, popn, swt, rf_s, rf_n, cat_i, cat_r, cat_n, cat_l, true_and, and_true, List.length_cons, List.length_nil, Nat.zero_add, Int.reduceToNat, Nat.reduceAdd, Nat.reduceDiv, Nat.reduceMod, Nat.reduceMul, Nat.reduceSub, Nat.reduceLeDiff, Nat.reduceLT, Nat.reduceEqDiff, ↓reduceIte, r_gr_wi, r_gl_wi, r_gk_wi, r_gn_wi, r_wi_eq, r_wi_ne, r_wi_nj, r_gi_wr, r_gl_wr, r_gk_wr, r_gn_wr, r_gr_wa, r_gl_wa, r_gk_wa, r_gn_wa, aa_e, as_e, al_e, u_lt, u_le, u_gt, u_ge, u_lt0, u_le0, u_gt0, u_ge0, Classical.not_not, not_true_eq_false, not_false_eq_true, oi_n, oi_m, n_dec, nI_add, pk_mul, n_sub, n_eq, n_le, n_lt, n_eq0, n_lt0, n_le0, n_0lt, n_0le, n_eqm, m_eqn, n_ltm, n_and, n_or, n_xor, n_shl, n_shr, tb1, tb0, bP_1, bP_0, bP_n0, ix_n, inb_n, u_eq, u_eqm, k20 L, f20_3 L, k37 L, fxV_n]
      exact ⟨fun z => z.elim, fun _ => no _ nC FC J⟩
    | some cs =>
      have hC : lawC s := ⟨n8, p, cs, et⟩
      obtain ⟨D1, C1, q1, q2⟩ := ok p cs rfl
      simp (maxSteps := 1000000) (disch := omega) only [slk, List.map_cons, List.map_nil, List.sum_cons, List.sum_nil, vc_i, vc_r, vc_n, vc_l, vc_o, Nat.add_zero, kO_e, kA_e, hdO_a, eq_self, blk, stp, lg, ls0, lk, ls1, ls2, kI_i, kL_l, kR_r, kR_n, kR_o, s1I_i, s2I_i, s1L_l, s2L_l, s1R_r, s1R_n, s1R_o, s1A_a, cmpc, popn, swt, rf_s, rf_n, cat_i, cat_r, cat_n, cat_l, true_and, and_true, List.length_cons, List.length_nil, Nat.zero_add, Int.reduceToNat, Nat.reduceAdd, Nat.reduceDiv, Nat.reduceMod, Nat.reduceMul, Nat.reduceSub, Nat.reduceLeDiff, Nat.reduceLT, Nat.reduceEqDiff, ↓reduceIte, r_gr_wi, r_gl_wi, r_gk_wi, r_gn_wi, r_wi_eq, r_wi_ne, r_wi_nj, r_gi_wr, r_gl_wr, r_gk_wr, r_gn_wr, r_gr_wa, r_gl_wa, r_gk_wa, r_gn_wa, aa_e, as_e, al_e, u_lt, u_le, u_gt, u_ge, u_lt0, u_le0, u_gt0, u_ge0, Classical.not_not, not_true_eq_false, not_false_eq_true, oi_n, oi_m, n_dec, nI_add, pk_mul, n_sub, n_eq, n_le, n_lt, n_eq0, n_lt0, n_le0, n_0lt, n_0le, n_eqm, m_eqn, n_ltm, n_and, n_or, n_xor, n_shl, n_shr, tb1, tb0, bP_1, bP_0, bP_n0, ix_n, inb_n, u_eq, u_eqm, k20 L, f20_3 L, k37 L, fxV_s]
      refine ⟨fun _ => ?_, fun z => z.elim⟩
      have ct := ci_ct J
      refine hP.1 _ _ s_T_law_23 _ _ _ _ _ ?_
      simp (maxSteps := 1000000) (disch := omega) only [g_T_law_23, slk, List.map_cons, List.map_nil, List.sum_cons, List.sum_nil, vc_i, vc_r, vc_n, vc_l, vc_o, Nat.add_zero, kO_e, kA_e, hdO_a, eq_self, blk, stp, lg, ls0, lk, ls1, ls2, kI_i, kL_l, kR_r, kR_n, kR_o, s1I_i, s2I_i, s1L_l, s2L_l, s1R_r, s1R_n, s1R_o, s1A_a, cmpc, popn, swt, rf_s, rf_n, cat_i, cat_r, cat_n, cat_l, true_and, and_true, List.length_cons, List.length_nil, Nat.zero_add, Int.reduceToNat, Nat.reduceAdd, Nat.reduceDiv, Nat.reduceMod, Nat.reduceMul, Nat.reduceSub, Nat.reduceLeDiff, Nat.reduceLT, Nat.reduceEqDiff, ↓reduceIte, r_gr_wi, r_gl_wi, r_gk_wi, r_gn_wi, r_wi_eq, r_wi_ne, r_wi_nj, r_gi_wr, r_gl_wr, r_gk_wr, r_gn_wr, r_gr_wa, r_gl_wa, r_gk_wa, r_gn_wa, aa_e, as_e, al_e, u_lt, u_le, u_gt, u_ge, u_lt0, u_le0, u_gt0, u_ge0, Classical.not_not, not_true_eq_false, not_false_eq_true, oi_n, oi_m, n_dec, nI_add, pk_mul, n_sub, n_eq, n_le, n_lt, n_eq0, n_lt0, n_le0, n_0lt, n_0le, n_eqm, m_eqn, n_ltm, n_and, n_or, n_xor, n_shl, n_shr, tb1, tb0, bP_1, bP_0, bP_n0, ix_n, inb_n, u_eq, u_eqm, k20 (ci_L J), f20_4 (ci_L J), k40 (ci_L J), f20_3 (ci_L J), k37 (ci_L J), f20_2 (ci_L J), k35 (ci_L J), k20 (ci_L J), f20_3 (ci_L J), f20_4 (ci_L J), ct.2.2.1]
      refine ⟨_, _, _, c_Re_readText (ci_L J) D1 C1 q1 q2, ⟨by omega, by omega⟩, ?_⟩
      rintro r H2 ⟨rfl, gn2, T, o2⟩
      have L2 : Lay H2 := (show Fg (fun _ => False) noY H1 H2 from ⟨fun a z => (o2 a z).1, by rw [gn2]; omega, fun a z _ => (o2 a z).2.1, fun a j z _ => by rw [(o2 a z).2.2.1]⟩).lay (ci_L J) (fun a j y => y.elim)
      have i2 : gi H2 20 15 = nI (s 107 29) := (congrFun (o2 20 (by omega)).2.1 15).trans ct.2.2.1
      have w2 : gr (wr H2 40 (s 107 29) (some (gn H1))) 20 2 = some 35 := (r_wr_ne _ _ (by omega)).trans (f20_2 L2)
      have ok : ∀ b, some (gn H1) = some b → 20 ≤ b ∧ kO (gk H2 b) (ecl 5) := by
        intro b eb
        cases eb
        exact ⟨by omega, T.2.1.1⟩
      simp (maxSteps := 1000000) (disch := omega) only [slk, List.map_cons, List.map_nil, List.sum_cons, List.sum_nil, vc_i, vc_r, vc_n, vc_l, vc_o, Nat.add_zero, kO_e, kA_e, hdO_a, eq_self, blk, stp, lg, ls0, lk, ls1, ls2, kI_i, kL_l, kR_r, kR_n, kR_o, s1I_i, s2I_i, s1L_l, s2L_l, s1R_r, s1R_n, s1R_o, s1A_a, cmpc, popn, swt, rf_s, rf_n, cat_i, cat_r, cat_n, cat_l, true_and, and_true, List.length_cons, List.length_nil, Nat.zero_add, Int.reduceToNat, Nat.reduceAdd, Nat.reduceDiv, Nat.reduceMod, Nat.reduceMul, Nat.reduceSub, Nat.reduceLeDiff, Nat.reduceLT, Nat.reduceEqDiff, ↓reduceIte, r_gr_wi, r_gl_wi, r_gk_wi, r_gn_wi, r_wi_eq, r_wi_ne, r_wi_nj, r_gi_wr, r_gl_wr, r_gk_wr, r_gn_wr, r_gr_wa, r_gl_wa, r_gk_wa, r_gn_wa, aa_e, as_e, al_e, u_lt, u_le, u_gt, u_ge, u_lt0, u_le0, u_gt0, u_ge0, Classical.not_not, not_true_eq_false, not_false_eq_true, oi_n, oi_m, n_dec, nI_add, pk_mul, n_sub, n_eq, n_le, n_lt, n_eq0, n_lt0, n_le0, n_0lt, n_0le, n_eqm, m_eqn, n_ltm, n_and, n_or, n_xor, n_shl, n_shr, tb1, tb0, bP_1, bP_0, bP_n0, ix_n, inb_n, u_eq, u_eqm, k20 (ci_L J), f20_4 (ci_L J), k40 (ci_L J), f20_3 (ci_L J), k37 (ci_L J), f20_2 (ci_L J), k35 (ci_L J), k20 L2, k40 L2, k35 L2, i2, w2, Nat.add_sub_cancel]
      refine ⟨⟨5, 8, rfl, by decide, by decide, of_eq_true (inb_n (show s 107 29 < 8 by omega) (by omega)), ok⟩, ?_⟩
      obtain ⟨H3, e3⟩ : ∃ H3, H3 = wi (wi (wr H2 40 (s 107 29) (some (gn H1))) 20 15 (nI (s 107 29 + 1))) 35 1 (nI 0) := ⟨_, rfl⟩
      rw [← e3]
      have JJ := ci_law W J hC et gn2 T o2 e3
      have F3 : FrC H1 H3 := frc_fg (fg_law gn2 o2 e3) g1 (fun a z => by rw [e3]; exact (o2 a z).2.2.2) (fun a q => by unfold clR; omega) (fun a j y => by unfold clR; omega)
      exact lzJ r_T_law hC rfl (FC.trans F3) JJ
end
