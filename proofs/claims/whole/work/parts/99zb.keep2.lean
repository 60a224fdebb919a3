/-! ===== the class: a text is kept ===== -/
theorem n_Ar_copyOf : mN 253 = 2 := rfl
theorem l_Ar_copyOf : mL 253 = 3 := rfl
theorem r_Ar_copyOf : mR 253 = some (.array .int) := rfl
theorem n_Te_init : mN 237 = 3 := rfl
theorem l_Te_init : mL 237 = 3 := rfl
theorem r_Te_init : mR 237 = none := rfl
theorem n_Re_readText : mN 193 = 1 := rfl
theorem l_Re_readText : mL 193 = 1 := rfl
theorem r_Re_readText : mR 193 = some (.object "TreeTalk$Text") := rfl
theorem n_T_fault : mN 14 = 2 := rfl
theorem l_T_fault : mL 14 = 2 := rfl
theorem r_T_fault : mR 14 = some .int := rfl
theorem FrC.sk {h h' : AH} (F : FrC h h') (g : 164 < gn h) (K : SK h) : SK h' := by
  intro i hi
  obtain ⟨k1, k2, k3, k4, k5⟩ := K i hi
  have o : ∀ a, a < 20 → gi h' a = gi h a ∧ gr h' a = gr h a := fun a ha => F.2.2.2 a (Or.inl ha)
  exact ⟨by rw [F.1 _ (by omega)]; exact k1, by rw [F.1 _ (by omega)]; exact k2, by rw [(o _ (by omega)).2]; exact k3, by rw [(o _ (by omega)).1]; exact k4, fun j hj => by rw [(o _ (by omega)).1]; exact k5 j hj⟩
theorem nI_inj32 {a b : Nat} (ha : a < 4294967296) (hb : b < 4294967296) (e : nI a = nI b) : a = b := by
  have := congrArg tn e
  rw [tn_nI ha, tn_nI hb] at this
  exact this
theorem fa_fx (s : St) (mind : Bool) : faN s mind = fxV (tpS s mind) := by
  unfold faN fxV
  cases tpS s mind with
  | mk p o => cases o <;> rfl
section
variable {h0 : AH} {s : St} {bm : Nat → Nat} {c : Nat}
theorem ci_37 (W : RH h0 s) {h2 H : AH} (I : CI h2 s bm c) (FB : Fg X39 Y37 h2 H) : CI H s bm c := by
  have b0 := rs_m W
  have g := (ci_L I).2.2
  have c4 := (ci_ct I).2.2.2.2.2
  have FB : Fg (fun a => a = 37 ∨ a = 38 ∨ a = 39) (fun a j => a = 37 ∧ (j = 3 ∨ j = 4)) h2 H := FB
  exact ⟨lay_37 FB (ci_L I), Fg.cc (s := s) FB g (ci_C I) (fun a q => by omega) (fun j y => (by first | exact y.elim | omega)) (fun j _ y => (by first | exact y.elim | omega)) (fun e he => rs_md W he), Fg.ct (s := s) FB g (ci_ct I) (fun q => by omega), Fg.mt (s := s) FB g (ci_m I) (fun m hm => rs_law W hm) (fun m hm a q => by have := ci_b I hm; omega) (fun m hm a j y => by first | exact y.elim | (have := ci_b I hm; omega)) (fun j _ y => (by first | exact y.elim | omega)) (fun j _ y => (by first | exact y.elim | omega)), (show BO s bm from ci_bo I), Fg.txa (s := s) FB g (ci_tx I) (fun t ht a q => by have := isTx_b (ci_tx I) ht; omega) (fun t ht j y => by first | exact y.elim | (have := isTx_b (ci_tx I) ht; omega)) (fun j _ y => (by first | exact y.elim | omega)) (fun j _ y => (by first | exact y.elim | omega)), Fg.dj (s := s) FB g (ci_dj I) (fun j _ y => (by first | exact y.elim | omega)) (fun j _ y => (by first | exact y.elim | omega)), Fg.tpc (s := s) FB g (ci_tp I) ⟨fun q => by omega, fun q => by omega⟩, Fg.plc (s := s) FB g (ci_pl I) (fun a q => by omega), Fg.gfc (s := s) FB g (ci_gf I) (by rw [FB.2.2.1 61 (by omega) (fun q => by omega)]) (fun a q => by omega), Fg.asc (s := s) FB g (ci_as I) (fun a q => by omega), Fg.twc (s := s) FB g (ci_tw I) (fun a ha q => by have := ta_b ha; unfold isT at ha; omega), Fg.std FB g (Nat.le_trans c4 b0) (ci_st I) (fun j hj a q => by have e : tOf j = 75 + 8 * j := rfl; omega) (fun j hj y => by have e : tOf j = 75 + 8 * j := rfl; omega), ci_pu I⟩
end
theorem frc_37 {h2 H : AH} (F : Fg X39 Y37 h2 H) (g : 164 < gn h2) (e : gl H = gl h2) : FrC h2 H := frc_fg F g (fun a _ => by rw [e]) (fun a q => by unfold X39 at q; unfold clR; omega) (fun a j y => by have := y.1; unfold clR; omega)
/-- a copy was made -/
def PCo (h : AH) (src N : Nat) (r : Option (Option Value)) (H : AH) : Prop :=
  r = some (some (.ref (gn h))) ∧ gn H = gn h + 1 ∧ gk H (gn h) = some (.inr (0, N)) ∧ (∀ j, j < N → gi H (gn h) j = gi h src j) ∧ ∀ a, a ≠ gn h → gk H a = gk h a ∧ gi H a = gi h a ∧ gr H a = gr h a ∧ gl H a = gl h a
section
variable {h : AH} {s : St} {d c : Nat} {bm : Nat → Nat}
theorem c_Ar_copyOf {src cap N : Nat} (hk : gk h src = some (.inr (0, cap))) (hs : 20 ≤ src) (hsg : src < gn h) (hg : 164 < gn h) (hN : N < cap) (hc : cap ≤ 200) : Mz (d + 1) 253 [.ref src, .int (nI N)] h 1 200 (PCo h src N) := by
  obtain ⟨g, eg⟩ : ∃ g, gn h = g := ⟨_, rfl⟩
  have R := r_al_k h (.inr (0, N)) eg
  obtain ⟨h3, e3⟩ : ∃ h3, h3 = al h (.inr (0, N)) := ⟨_, rfl⟩
  rw [← e3] at R
  have ks : gk h3 src = some (.inr (0, cap)) := (R.2.2.2.2 src (by omega)).1.trans hk
  have g20 : 20 ≤ g := by omega
  have mn : (if N < cap then N else cap) = N := if_pos hN
  refine mz_in (l := [some (.ref src), some (.int (nI N)), none]) mk_Ar_copyOf n_Ar_copyOf rfl l_Ar_copyOf rfl (Nat.le_of_ble_eq_true rfl) fun P hP => ?_
  refine hP.1 _ _ s_Ar_copyOf_0 _ _ _ _ _ ?_
  simp (maxSteps := 1000000) (disch := omega) only [g_Ar_copyOf_0, slk, List.map_cons, List.map_nil, List.sum_cons, List.sum_nil, vc_i, vc_r, vc_n, vc_l, vc_o, Nat.add_zero, kO_e, kA_e, hdO_a, eq_self, blk, stp, lg, ls0, lk, ls1, ls2, kI_i, kL_l, kR_r, kR_n, kR_o, s1I_i, s2I_i, s1L_l, s2L_l, s1R_r, s1R_n, s1R_o, s1A_a, cmpc, popn, swt, rf_s, rf_n, cat_i, cat_r, cat_n, cat_l, true_and, and_true, List.length_cons, List.length_nil, Nat.zero_add, Int.reduceToNat, Nat.reduceAdd, Nat.reduceDiv, Nat.reduceMod, Nat.reduceMul, Nat.reduceSub, Nat.reduceLeDiff, Nat.reduceLT, Nat.reduceEqDiff, ↓reduceIte, r_gr_wi, r_gl_wi, r_gk_wi, r_gn_wi, r_wi_eq, r_wi_ne, r_wi_nj, r_gi_wr, r_gl_wr, r_gk_wr, r_gn_wr, r_gr_wa, r_gl_wa, r_gk_wa, r_gn_wa, aa_e, as_e, al_e, u_lt, u_le, u_gt, u_ge, u_lt0, u_le0, u_gt0, u_ge0, Classical.not_not, not_true_eq_false, not_false_eq_true, oi_n, oi_m, n_dec, nI_add, pk_mul, n_sub, n_eq, n_le, n_lt, n_eq0, n_lt0, n_le0, n_0lt, n_0le, n_eqm, m_eqn, n_ltm, n_and, n_or, n_xor, n_shl, n_shr, tb1, tb0, bP_1, bP_0, bP_n0, ix_n, inb_n, u_eq, u_eqm, hk, eg, ← e3, aty, ks, R.2.1, g20, hs, n_min, Nat.min_eq_left (Nat.le_of_lt hN), Nat.min_eq_right (Nat.le_of_lt hN)]
  refine ⟨fun _ => ?_, fun z => (by exfalso; omega)⟩
  refine hP.1 _ _ s_Ar_copyOf_14 _ _ _ _ _ ?_
  simp (maxSteps := 1000000) (disch := omega) only [g_Ar_copyOf_14, slk, List.map_cons, List.map_nil, List.sum_cons, List.sum_nil, vc_i, vc_r, vc_n, vc_l, vc_o, Nat.add_zero, kO_e, kA_e, hdO_a, eq_self, blk, stp, lg, ls0, lk, ls1, ls2, kI_i, kL_l, kR_r, kR_n, kR_o, s1I_i, s2I_i, s1L_l, s2L_l, s1R_r, s1R_n, s1R_o, s1A_a, cmpc, popn, swt, rf_s, rf_n, cat_i, cat_r, cat_n, cat_l, true_and, and_true, List.length_cons, List.length_nil, Nat.zero_add, Int.reduceToNat, Nat.reduceAdd, Nat.reduceDiv, Nat.reduceMod, Nat.reduceMul, Nat.reduceSub, Nat.reduceLeDiff, Nat.reduceLT, Nat.reduceEqDiff, ↓reduceIte, r_gr_wi, r_gl_wi, r_gk_wi, r_gn_wi, r_wi_eq, r_wi_ne, r_wi_nj, r_gi_wr, r_gl_wr, r_gk_wr, r_gn_wr, r_gr_wa, r_gl_wa, r_gk_wa, r_gn_wa, aa_e, as_e, al_e, u_lt, u_le, u_gt, u_ge, u_lt0, u_le0, u_gt0, u_ge0, Classical.not_not, not_true_eq_false, not_false_eq_true, oi_n, oi_m, n_dec, nI_add, pk_mul, n_sub, n_eq, n_le, n_lt, n_eq0, n_lt0, n_le0, n_0lt, n_0le, n_eqm, m_eqn, n_ltm, n_and, n_or, n_xor, n_shl, n_shr, tb1, tb0, bP_1, bP_0, bP_n0, ix_n, inb_n, u_eq, u_eqm, hk, eg, ← e3, aty, ks, R.2.1, g20, hs, n_min, Nat.min_eq_left (Nat.le_of_lt hN), Nat.min_eq_right (Nat.le_of_lt hN)]
  refine ⟨⟨by omega, by omega⟩, ⟨by omega, Nat.le_refl _⟩, ?_⟩
  rw [r_Ar_copyOf]
  unfold PCo
  rw [eg]
  refine ⟨trivial, rfl, R.1, R.2.1, fun j hj => ?_, fun a q => ⟨(R.2.2.2.2 a q).1, ?_, (R.2.2.2.2 a q).2.2.1, (R.2.2.2.2 a q).2.2.2⟩⟩
  · rw [r_gi_wa, if_pos rfl]
    unfold va_cpy
    rw [if_pos (by omega), (R.2.2.2.2 src (by omega)).2.1]
    exact congrArg _ (by omega)
  · rw [r_gi_wa, if_neg q]
    exact (R.2.2.2.2 a q).2.1
/-- a text was made -/
def PTe (h : AH) (t a b : Nat) (r : Option (Option Value)) (H : AH) : Prop := r = some none ∧ H = wr (wr h t 0 (some a)) t 1 (some b)
theorem c_Te_init {t a b : Nat} (hk : gk h t = some (.inl 10)) (ht : 20 ≤ t) : Mz (d + 1) 237 [.ref t, .ref a, .ref b] h 0 0 (PTe h t a b) := by
  refine mz_in (l := [some (.ref t), some (.ref a), some (.ref b)]) mk_Te_init n_Te_init rfl l_Te_init rfl (Nat.le_of_ble_eq_true rfl) fun P hP => ?_
  refine hP.1 _ _ s_Te_init_0 _ _ _ _ _ ?_
  simp (maxSteps := 1000000) (disch := omega) only [g_Te_init_0, slk, List.map_cons, List.map_nil, List.sum_cons, List.sum_nil, vc_i, vc_r, vc_n, vc_l, vc_o, Nat.add_zero, kO_e, kA_e, hdO_a, eq_self, blk, stp, lg, ls0, lk, ls1, ls2, kI_i, kL_l, kR_r, kR_n, kR_o, s1I_i, s2I_i, s1L_l, s2L_l, s1R_r, s1R_n, s1R_o, s1A_a, cmpc, popn, swt, rf_s, rf_n, cat_i, cat_r, cat_n, cat_l, true_and, and_true, List.length_cons, List.length_nil, Nat.zero_add, Int.reduceToNat, Nat.reduceAdd, Nat.reduceDiv, Nat.reduceMod, Nat.reduceMul, Nat.reduceSub, Nat.reduceLeDiff, Nat.reduceLT, Nat.reduceEqDiff, ↓reduceIte, r_gr_wi, r_gl_wi, r_gk_wi, r_gn_wi, r_wi_eq, r_wi_ne, r_wi_nj, r_gi_wr, r_gl_wr, r_gk_wr, r_gn_wr, r_gr_wa, r_gl_wa, r_gk_wa, r_gn_wa, aa_e, as_e, al_e, u_lt, u_le, u_gt, u_ge, u_lt0, u_le0, u_gt0, u_ge0, Classical.not_not, not_true_eq_false, not_false_eq_true, oi_n, oi_m, n_dec, nI_add, pk_mul, n_sub, n_eq, n_le, n_lt, n_eq0, n_lt0, n_le0, n_0lt, n_0le, n_eqm, m_eqn, n_ltm, n_and, n_or, n_xor, n_shl, n_shr, tb1, tb0, bP_1, bP_0, bP_n0, ix_n, inb_n, u_eq, u_eqm, hk, ht]
  rw [r_Te_init]
  exact ⟨trivial, rfl, rfl⟩
/-- a text was read -/
def PRt (h : AH) (cs : List Cl) (r : Option (Option Value)) (H : AH) : Prop :=
  r = some (some (.ref (gn h))) ∧ gn H = gn h + 3 ∧ TXT H (gn h) cs ∧ ∀ a, a < gn h → gk H a = gk h a ∧ gi H a = gi h a ∧ gr H a = gr h a ∧ gl H a = gl h a
theorem c_Re_readText (L : Lay h) {n p : Nat} {cs : List Cl} (D : RD h n p (cdL cs)) (C : CLR h cs) (h1 : 4 * cs.length ≤ 160) (h2 : clT cs < 160) : Mz (d + 2) 193 [.ref 37] h 3 410 (PRt h cs) := by
  obtain ⟨g, eg⟩ : ∃ g, gn h = g := ⟨_, rfl⟩
  have gb := L.2.2
  have R := r_al_k h (.inl 10) eg
  obtain ⟨h3, e3⟩ : ∃ h3, h3 = al h (.inl 10) := ⟨_, rfl⟩
  rw [← e3] at R
  have o3 : ∀ a, a < g → gk h3 a = gk h a ∧ gi h3 a = gi h a ∧ gr h3 a = gr h a ∧ gl h3 a = gl h a := fun a ha => R.2.2.2.2 a (by omega)
  have g20 : 20 ≤ g := by omega
  have k37' : gk h3 37 = some (.inl 6) := (o3 37 (by omega)).1.trans (k37 L)
  have k38' : gk h3 38 = some (.inr (0, 160)) := (o3 38 (by omega)).1.trans (k38 L)
  have k39' : gk h3 39 = some (.inr (0, 164)) := (o3 39 (by omega)).1.trans (k39 L)
  have r1 : gr h3 37 1 = some 38 := (congrFun (o3 37 (by omega)).2.2.1 1).trans (f37_1 L)
  have r2 : gr h3 37 2 = some 39 := (congrFun (o3 37 (by omega)).2.2.1 2).trans (f37_2 L)
  have i6 : gi h3 37 6 = nI (clT cs) := ((congrFun (o3 37 (by omega)).2.1 6).trans D.2.2.1).trans (by rw [cdL_len])
  have i7 : gi h3 37 7 = nI (4 * cs.length) := (congrFun (o3 37 (by omega)).2.1 7).trans C.1
  refine mz_in (l := [some (.ref 37)]) mk_Re_readText n_Re_readText rfl l_Re_readText rfl (Nat.le_of_ble_eq_true rfl) fun P hP => ?_
  refine hP.1 _ _ s_Re_readText_0 _ _ _ _ _ ?_
  simp (maxSteps := 1000000) (disch := omega) only [g_Re_readText_0, slk, List.map_cons, List.map_nil, List.sum_cons, List.sum_nil, vc_i, vc_r, vc_n, vc_l, vc_o, Nat.add_zero, kO_e, kA_e, hdO_a, eq_self, blk, stp, lg, ls0, lk, ls1, ls2, kI_i, kL_l, kR_r, kR_n, kR_o, s1I_i, s2I_i, s1L_l, s2L_l, s1R_r, s1R_n, s1R_o, s1A_a, cmpc, popn, swt, rf_s, rf_n, cat_i, cat_r, cat_n, cat_l, true_and, and_true, List.length_cons, List.length_nil, Nat.zero_add, Int.reduceToNat, Nat.reduceAdd, Nat.reduceDiv, Nat.reduceMod, Nat.reduceMul, Nat.reduceSub, Nat.reduceLeDiff, Nat.reduceLT, Nat.reduceEqDiff, ↓reduceIte, r_gr_wi, r_gl_wi, r_gk_wi, r_gn_wi, r_wi_eq, r_wi_ne, r_wi_nj, r_gi_wr, r_gl_wr, r_gk_wr, r_gn_wr, r_gr_wa, r_gl_wa, r_gk_wa, r_gn_wa, aa_e, as_e, al_e, u_lt, u_le, u_gt, u_ge, u_lt0, u_le0, u_gt0, u_ge0, Classical.not_not, not_true_eq_false, not_false_eq_true, oi_n, oi_m, n_dec, nI_add, pk_mul, n_sub, n_eq, n_le, n_lt, n_eq0, n_lt0, n_le0, n_0lt, n_0le, n_eqm, m_eqn, n_ltm, n_and, n_or, n_xor, n_shl, n_shr, tb1, tb0, bP_1, bP_0, bP_n0, ix_n, inb_n, u_eq, u_eqm, k37 L, f37_1 L, k38 L, f37_2 L, k39 L, eg, nfc, ← e3, R.2.1, g20, k37', r1, i6]
  refine ⟨_, _, _, c_Ar_copyOf k38' (by omega) (by rw [R.1]; omega) (by rw [R.1]; omega) h2 (by omega), ⟨by omega, by omega⟩, ?_⟩
  rintro r H1 ⟨rfl, n1, a1, a2, a3⟩
  rw [R.1] at n1 a1 a2 a3 ⊢
  have b1 : ∀ a, a < g + 1 → gk H1 a = gk h3 a ∧ gi H1 a = gi h3 a ∧ gr H1 a = gr h3 a ∧ gl H1 a = gl h3 a := fun a ha => a3 a (by omega)
  have k37'' : gk H1 37 = some (.inl 6) := (b1 37 (by omega)).1.trans k37'
  have k39'' : gk H1 39 = some (.inr (0, 164)) := (b1 39 (by omega)).1.trans k39'
  have r2' : gr H1 37 2 = some 39 := (congrFun (b1 37 (by omega)).2.2.1 2).trans r2
  have i7' : gi H1 37 7 = nI (4 * cs.length) := (congrFun (b1 37 (by omega)).2.1 7).trans i7
  simp (maxSteps := 1000000) (disch := omega) only [slk, List.map_cons, List.map_nil, List.sum_cons, List.sum_nil, vc_i, vc_r, vc_n, vc_l, vc_o, Nat.add_zero, kO_e, kA_e, hdO_a, eq_self, blk, stp, lg, ls0, lk, ls1, ls2, kI_i, kL_l, kR_r, kR_n, kR_o, s1I_i, s2I_i, s1L_l, s2L_l, s1R_r, s1R_n, s1R_o, s1A_a, cmpc, popn, swt, rf_s, rf_n, cat_i, cat_r, cat_n, cat_l, true_and, and_true, List.length_cons, List.length_nil, Nat.zero_add, Int.reduceToNat, Nat.reduceAdd, Nat.reduceDiv, Nat.reduceMod, Nat.reduceMul, Nat.reduceSub, Nat.reduceLeDiff, Nat.reduceLT, Nat.reduceEqDiff, ↓reduceIte, r_gr_wi, r_gl_wi, r_gk_wi, r_gn_wi, r_wi_eq, r_wi_ne, r_wi_nj, r_gi_wr, r_gl_wr, r_gk_wr, r_gn_wr, r_gr_wa, r_gl_wa, r_gk_wa, r_gn_wa, aa_e, as_e, al_e, u_lt, u_le, u_gt, u_ge, u_lt0, u_le0, u_gt0, u_ge0, Classical.not_not, not_true_eq_false, not_false_eq_true, oi_n, oi_m, n_dec, nI_add, pk_mul, n_sub, n_eq, n_le, n_lt, n_eq0, n_lt0, n_le0, n_0lt, n_0le, n_eqm, m_eqn, n_ltm, n_and, n_or, n_xor, n_shl, n_shr, tb1, tb0, bP_1, bP_0, bP_n0, ix_n, inb_n, u_eq, u_eqm, k37 L, f37_1 L, k38 L, f37_2 L, k39 L, k37'', r2', i7']
  refine ⟨_, _, _, c_Ar_copyOf k39'' (by omega) (by rw [n1]; omega) (by rw [n1]; omega) (show 4 * cs.length < 164 by omega) (by omega), ⟨by omega, by omega⟩, ?_⟩
  rintro r H2 ⟨rfl, n2, d1, d2, d3⟩
  rw [n1] at n2 d1 d2 d3 ⊢
  have b2 : ∀ a, a < g + 1 + 1 → gk H2 a = gk H1 a ∧ gi H2 a = gi H1 a ∧ gr H2 a = gr H1 a ∧ gl H2 a = gl H1 a := fun a ha => d3 a (by omega)
  have kt : gk H2 g = some (.inl 10) := ((b2 g (by omega)).1.trans (b1 g (by omega)).1).trans R.2.1
  simp (maxSteps := 1000000) (disch := omega) only [slk, List.map_cons, List.map_nil, List.sum_cons, List.sum_nil, vc_i, vc_r, vc_n, vc_l, vc_o, Nat.add_zero, kO_e, kA_e, hdO_a, eq_self, blk, stp, lg, ls0, lk, ls1, ls2, kI_i, kL_l, kR_r, kR_n, kR_o, s1I_i, s2I_i, s1L_l, s2L_l, s1R_r, s1R_n, s1R_o, s1A_a, cmpc, popn, swt, rf_s, rf_n, cat_i, cat_r, cat_n, cat_l, true_and, and_true, List.length_cons, List.length_nil, Nat.zero_add, Int.reduceToNat, Nat.reduceAdd, Nat.reduceDiv, Nat.reduceMod, Nat.reduceMul, Nat.reduceSub, Nat.reduceLeDiff, Nat.reduceLT, Nat.reduceEqDiff, ↓reduceIte, r_gr_wi, r_gl_wi, r_gk_wi, r_gn_wi, r_wi_eq, r_wi_ne, r_wi_nj, r_gi_wr, r_gl_wr, r_gk_wr, r_gn_wr, r_gr_wa, r_gl_wa, r_gk_wa, r_gn_wa, aa_e, as_e, al_e, u_lt, u_le, u_gt, u_ge, u_lt0, u_le0, u_gt0, u_ge0, Classical.not_not, not_true_eq_false, not_false_eq_true, oi_n, oi_m, n_dec, nI_add, pk_mul, n_sub, n_eq, n_le, n_lt, n_eq0, n_lt0, n_le0, n_0lt, n_0le, n_eqm, m_eqn, n_ltm, n_and, n_or, n_xor, n_shl, n_shr, tb1, tb0, bP_1, bP_0, bP_n0, ix_n, inb_n, u_eq, u_eqm, k37 L, f37_1 L, k38 L, f37_2 L, k39 L, kt]
  refine ⟨_, _, _, c_Te_init kt g20, ⟨by omega, by omega⟩, ?_⟩
  rintro r H3 ⟨rfl, e4⟩
  simp (maxSteps := 1000000) (disch := omega) only [slk, List.map_cons, List.map_nil, List.sum_cons, List.sum_nil, vc_i, vc_r, vc_n, vc_l, vc_o, Nat.add_zero, kO_e, kA_e, hdO_a, eq_self, blk, stp, lg, ls0, lk, ls1, ls2, kI_i, kL_l, kR_r, kR_n, kR_o, s1I_i, s2I_i, s1L_l, s2L_l, s1R_r, s1R_n, s1R_o, s1A_a, cmpc, popn, swt, rf_s, rf_n, cat_i, cat_r, cat_n, cat_l, true_and, and_true, List.length_cons, List.length_nil, Nat.zero_add, Int.reduceToNat, Nat.reduceAdd, Nat.reduceDiv, Nat.reduceMod, Nat.reduceMul, Nat.reduceSub, Nat.reduceLeDiff, Nat.reduceLT, Nat.reduceEqDiff, ↓reduceIte, r_gr_wi, r_gl_wi, r_gk_wi, r_gn_wi, r_wi_eq, r_wi_ne, r_wi_nj, r_gi_wr, r_gl_wr, r_gk_wr, r_gn_wr, r_gr_wa, r_gl_wa, r_gk_wa, r_gn_wa, aa_e, as_e, al_e, u_lt, u_le, u_gt, u_ge, u_lt0, u_le0, u_gt0, u_ge0, Classical.not_not, not_true_eq_false, not_false_eq_true, oi_n, oi_m, n_dec, nI_add, pk_mul, n_sub, n_eq, n_le, n_lt, n_eq0, n_lt0, n_le0, n_0lt, n_0le, n_eqm, m_eqn, n_ltm, n_and, n_or, n_xor, n_shl, n_shr, tb1, tb0, bP_1, bP_0, bP_n0, ix_n, inb_n, u_eq, u_eqm, k37 L, f37_1 L, k38 L, f37_2 L, k39 L, kt]
  rw [r_Re_readText]
  have gk4 : gk H3 = gk H2 := by rw [e4]; rfl
  have gi4 : gi H3 = gi H2 := by rw [e4]; rfl
  have gl4 : gl H3 = gl H2 := by rw [e4]; rfl
  have gn4 : gn H3 = gn H2 := by rw [e4]; rfl
  have gr4 : ∀ a, a ≠ g → gr H3 a = gr H2 a := fun a q => by
    funext j
    rw [e4, r_wr_ne _ _ (fun y => q y.1), r_wr_ne _ _ (fun y => q y.1)]
  unfold PRt
  rw [eg]
  refine ⟨trivial, rfl, by rw [gn4, n2], ⟨⟨by omega, by rw [gn4, n2]; omega⟩, ⟨by rw [gk4]; exact kt, by rw [gk4]; exact (b2 (g + 1) (by omega)).1.trans a1, by rw [gk4]; exact d1, by rw [e4, r_wr_ne _ _ (fun y => by omega), r_wr_eq], by rw [e4, r_wr_eq]⟩, fun i hi => ?_, fun k hk => ?_⟩, fun a ha => ?_⟩
  · rw [gi4, (b2 (g + 1) (by omega)).2.1, a2 i hi, (o3 38 (by omega)).2.1]
    exact D.2.2.2.2 i (by rw [cdL_len]; exact hi)
  · have q : ∀ j, j < 4 * cs.length → gi H3 (g + 2) j = gi h 39 j := fun j hj => by
      rw [gi4, show g + 2 = g + 1 + 1 by omega, d2 j hj, (b1 39 (by omega)).2.1, (o3 39 (by omega)).2.1]
    rw [q _ (by omega), q _ (by omega), q _ (by omega), q _ (by omega)]
    exact C.2 k hk
  · rw [gk4, gi4, gl4, gr4 a (by omega)]
    have x1 := b2 a (by omega)
    have x2 := b1 a (by omega)
    have x3 := o3 a ha
    exact ⟨x1.1.trans (x2.1.trans x3.1), x1.2.1.trans (x2.2.1.trans x3.2.1), x1.2.2.1.trans (x2.2.2.1.trans x3.2.2.1), x1.2.2.2.trans (x2.2.2.2.trans x3.2.2.2)⟩
theorem c_T_fault (W : RH h s) {h2 : AH} (K : SK h2) (I : CI h2 s bm c) {m : Nat} (hm : m < 4294967296) : Mz (d + 48) 14 [.ref 20, .int (nI m)] h2 0 0 (PC2 (faV s m) s h2) := by
  have bl := rs_l W
  have g := (ci_L I).2.2
  refine mz_in (l := [some (.ref 20), some (.int (nI m))]) mk_T_fault n_T_fault rfl l_T_fault rfl (Nat.le_of_ble_eq_true rfl) fun P hP => ?_
  have hB : ∀ j, j < s 107 28 → gi h2 36 j = nI (s 125 j) ∧ 1 ≤ s 125 j ∧ s 125 j ≤ 255 := fun j hj => ⟨(ci_tp I).2 j hj, rs_tape W hj⟩
  have go : ∀ mind : Bool, bP (mind = true) = nI m → faV s m = faN s mind → P 9 [some (.ref 20), some (.int (nI m))] [] h2 0 0 := by
    intro mind e e2
    have cf := c_Re_faultAs (d := d) mind (ci_L I) K (ci_tp I).1 bl hB
    rw [e] at cf
    refine hP.1 _ _ s_T_fault_9 _ _ _ _ _ ?_
    simp (maxSteps := 1000000) (disch := omega) only [g_T_fault_9, slk, List.map_cons, List.map_nil, List.sum_cons, List.sum_nil, vc_i, vc_r, vc_n, vc_l, vc_o, Nat.add_zero, kO_e, kA_e, hdO_a, eq_self, blk, stp, lg, ls0, lk, ls1, ls2, kI_i, kL_l, kR_r, kR_n, kR_o, s1I_i, s2I_i, s1L_l, s2L_l, s1R_r, s1R_n, s1R_o, s1A_a, cmpc, popn, swt, rf_s, rf_n, cat_i, cat_r, cat_n, cat_l, true_and, and_true, List.length_cons, List.length_nil, Nat.zero_add, Int.reduceToNat, Nat.reduceAdd, Nat.reduceDiv, Nat.reduceMod, Nat.reduceMul, Nat.reduceSub, Nat.reduceLeDiff, Nat.reduceLT, Nat.reduceEqDiff, ↓reduceIte, r_gr_wi, r_gl_wi, r_gk_wi, r_gn_wi, r_wi_eq, r_wi_ne, r_wi_nj, r_gi_wr, r_gl_wr, r_gk_wr, r_gn_wr, r_gr_wa, r_gl_wa, r_gk_wa, r_gn_wa, aa_e, as_e, al_e, u_lt, u_le, u_gt, u_ge, u_lt0, u_le0, u_gt0, u_ge0, Classical.not_not, not_true_eq_false, not_false_eq_true, oi_n, oi_m, n_dec, nI_add, pk_mul, n_sub, n_eq, n_le, n_lt, n_eq0, n_lt0, n_le0, n_0lt, n_0le, n_eqm, m_eqn, n_ltm, n_and, n_or, n_xor, n_shl, n_shr, tb1, tb0, bP_1, bP_0, bP_n0, ix_n, inb_n, u_eq, u_eqm, k20 (ci_L I), f20_3 (ci_L I), k37 (ci_L I), k20 (ci_L I), f20_3 (ci_L I)]
    refine ⟨_, _, _, cf, ⟨by omega, by omega⟩, ?_⟩
    rintro r H ⟨rfl, F, fl, _⟩
    have J := ci_37 W I F
    simp (maxSteps := 1000000) (disch := omega) only [slk, List.map_cons, List.map_nil, List.sum_cons, List.sum_nil, vc_i, vc_r, vc_n, vc_l, vc_o, Nat.add_zero, kO_e, kA_e, hdO_a, eq_self, blk, stp, lg, ls0, lk, ls1, ls2, kI_i, kL_l, kR_r, kR_n, kR_o, s1I_i, s2I_i, s1L_l, s2L_l, s1R_r, s1R_n, s1R_o, s1A_a, cmpc, popn, swt, rf_s, rf_n, cat_i, cat_r, cat_n, cat_l, true_and, and_true, List.length_cons, List.length_nil, Nat.zero_add, Int.reduceToNat, Nat.reduceAdd, Nat.reduceDiv, Nat.reduceMod, Nat.reduceMul, Nat.reduceSub, Nat.reduceLeDiff, Nat.reduceLT, Nat.reduceEqDiff, ↓reduceIte, r_gr_wi, r_gl_wi, r_gk_wi, r_gn_wi, r_wi_eq, r_wi_ne, r_wi_nj, r_gi_wr, r_gl_wr, r_gk_wr, r_gn_wr, r_gr_wa, r_gl_wa, r_gk_wa, r_gn_wa, aa_e, as_e, al_e, u_lt, u_le, u_gt, u_ge, u_lt0, u_le0, u_gt0, u_ge0, Classical.not_not, not_true_eq_false, not_false_eq_true, oi_n, oi_m, n_dec, nI_add, pk_mul, n_sub, n_eq, n_le, n_lt, n_eq0, n_lt0, n_le0, n_0lt, n_0le, n_eqm, m_eqn, n_ltm, n_and, n_or, n_xor, n_shl, n_shr, tb1, tb0, bP_1, bP_0, bP_n0, ix_n, inb_n, u_eq, u_eqm, k20 (ci_L I), f20_3 (ci_L I), k37 (ci_L I), k20 (ci_L I), f20_3 (ci_L I)]
    refine hP.1 _ _ s_T_fault_22 _ _ _ _ _ ?_
    simp (maxSteps := 1000000) (disch := omega) only [g_T_fault_22, slk, List.map_cons, List.map_nil, List.sum_cons, List.sum_nil, vc_i, vc_r, vc_n, vc_l, vc_o, Nat.add_zero, kO_e, kA_e, hdO_a, eq_self, blk, stp, lg, ls0, lk, ls1, ls2, kI_i, kL_l, kR_r, kR_n, kR_o, s1I_i, s2I_i, s1L_l, s2L_l, s1R_r, s1R_n, s1R_o, s1A_a, cmpc, popn, swt, rf_s, rf_n, cat_i, cat_r, cat_n, cat_l, true_and, and_true, List.length_cons, List.length_nil, Nat.zero_add, Int.reduceToNat, Nat.reduceAdd, Nat.reduceDiv, Nat.reduceMod, Nat.reduceMul, Nat.reduceSub, Nat.reduceLeDiff, Nat.reduceLT, Nat.reduceEqDiff, ↓reduceIte, r_gr_wi, r_gl_wi, r_gk_wi, r_gn_wi, r_wi_eq, r_wi_ne, r_wi_nj, r_gi_wr, r_gl_wr, r_gk_wr, r_gn_wr, r_gr_wa, r_gl_wa, r_gk_wa, r_gn_wa, aa_e, as_e, al_e, u_lt, u_le, u_gt, u_ge, u_lt0, u_le0, u_gt0, u_ge0, Classical.not_not, not_true_eq_false, not_false_eq_true, oi_n, oi_m, n_dec, nI_add, pk_mul, n_sub, n_eq, n_le, n_lt, n_eq0, n_lt0, n_le0, n_0lt, n_0le, n_eqm, m_eqn, n_ltm, n_and, n_or, n_xor, n_shl, n_shr, tb1, tb0, bP_1, bP_0, bP_n0, ix_n, inb_n, u_eq, u_eqm, k20 (ci_L I), f20_3 (ci_L I)]
    exact lzI r_T_fault (by rw [e2, fa_fx]; rfl) (frc_37 F g fl) J
  have no : ¬ m ≤ 1 → P 20 [some (.ref 20), some (.int (nI m))] [] h2 0 0 := by
    intro q
    refine hP.1 _ _ s_T_fault_20 _ _ _ _ _ ?_
    simp (maxSteps := 1000000) (disch := omega) only [g_T_fault_20, slk, List.map_cons, List.map_nil, List.sum_cons, List.sum_nil, vc_i, vc_r, vc_n, vc_l, vc_o, Nat.add_zero, kO_e, kA_e, hdO_a, eq_self, blk, stp, lg, ls0, lk, ls1, ls2, kI_i, kL_l, kR_r, kR_n, kR_o, s1I_i, s2I_i, s1L_l, s2L_l, s1R_r, s1R_n, s1R_o, s1A_a, cmpc, popn, swt, rf_s, rf_n, cat_i, cat_r, cat_n, cat_l, true_and, and_true, List.length_cons, List.length_nil, Nat.zero_add, Int.reduceToNat, Nat.reduceAdd, Nat.reduceDiv, Nat.reduceMod, Nat.reduceMul, Nat.reduceSub, Nat.reduceLeDiff, Nat.reduceLT, Nat.reduceEqDiff, ↓reduceIte, r_gr_wi, r_gl_wi, r_gk_wi, r_gn_wi, r_wi_eq, r_wi_ne, r_wi_nj, r_gi_wr, r_gl_wr, r_gk_wr, r_gn_wr, r_gr_wa, r_gl_wa, r_gk_wa, r_gn_wa, aa_e, as_e, al_e, u_lt, u_le, u_gt, u_ge, u_lt0, u_le0, u_gt0, u_ge0, Classical.not_not, not_true_eq_false, not_false_eq_true, oi_n, oi_m, n_dec, nI_add, pk_mul, n_sub, n_eq, n_le, n_lt, n_eq0, n_lt0, n_le0, n_0lt, n_0le, n_eqm, m_eqn, n_ltm, n_and, n_or, n_xor, n_shl, n_shr, tb1, tb0, bP_1, bP_0, bP_n0, ix_n, inb_n, u_eq, u_eqm]
    refine hP.1 _ _ s_T_fault_22 _ _ _ _ _ ?_
    simp (maxSteps := 1000000) (disch := omega) only [g_T_fault_22, slk, List.map_cons, List.map_nil, List.sum_cons, List.sum_nil, vc_i, vc_r, vc_n, vc_l, vc_o, Nat.add_zero, kO_e, kA_e, hdO_a, eq_self, blk, stp, lg, ls0, lk, ls1, ls2, kI_i, kL_l, kR_r, kR_n, kR_o, s1I_i, s2I_i, s1L_l, s2L_l, s1R_r, s1R_n, s1R_o, s1A_a, cmpc, popn, swt, rf_s, rf_n, cat_i, cat_r, cat_n, cat_l, true_and, and_true, List.length_cons, List.length_nil, Nat.zero_add, Int.reduceToNat, Nat.reduceAdd, Nat.reduceDiv, Nat.reduceMod, Nat.reduceMul, Nat.reduceSub, Nat.reduceLeDiff, Nat.reduceLT, Nat.reduceEqDiff, ↓reduceIte, r_gr_wi, r_gl_wi, r_gk_wi, r_gn_wi, r_wi_eq, r_wi_ne, r_wi_nj, r_gi_wr, r_gl_wr, r_gk_wr, r_gn_wr, r_gr_wa, r_gl_wa, r_gk_wa, r_gn_wa, aa_e, as_e, al_e, u_lt, u_le, u_gt, u_ge, u_lt0, u_le0, u_gt0, u_ge0, Classical.not_not, not_true_eq_false, not_false_eq_true, oi_n, oi_m, n_dec, nI_add, pk_mul, n_sub, n_eq, n_le, n_lt, n_eq0, n_lt0, n_le0, n_0lt, n_0le, n_eqm, m_eqn, n_ltm, n_and, n_or, n_xor, n_shl, n_shr, tb1, tb0, bP_1, bP_0, bP_n0, ix_n, inb_n, u_eq, u_eqm]
    exact lzI r_T_fault (by unfold faV; rw [if_neg (by omega), if_neg (by omega)]; rfl) (FrC.refl _) I
  by_cases m0 : m = 0
  · subst m0
    refine hP.1 _ _ s_T_fault_0 _ _ _ _ _ ?_
    simp (maxSteps := 1000000) (disch := omega) only [g_T_fault_0, slk, List.map_cons, List.map_nil, List.sum_cons, List.sum_nil, vc_i, vc_r, vc_n, vc_l, vc_o, Nat.add_zero, kO_e, kA_e, hdO_a, eq_self, blk, stp, lg, ls0, lk, ls1, ls2, kI_i, kL_l, kR_r, kR_n, kR_o, s1I_i, s2I_i, s1L_l, s2L_l, s1R_r, s1R_n, s1R_o, s1A_a, cmpc, popn, swt, rf_s, rf_n, cat_i, cat_r, cat_n, cat_l, true_and, and_true, List.length_cons, List.length_nil, Nat.zero_add, Int.reduceToNat, Nat.reduceAdd, Nat.reduceDiv, Nat.reduceMod, Nat.reduceMul, Nat.reduceSub, Nat.reduceLeDiff, Nat.reduceLT, Nat.reduceEqDiff, ↓reduceIte, r_gr_wi, r_gl_wi, r_gk_wi, r_gn_wi, r_wi_eq, r_wi_ne, r_wi_nj, r_gi_wr, r_gl_wr, r_gk_wr, r_gn_wr, r_gr_wa, r_gl_wa, r_gk_wa, r_gn_wa, aa_e, as_e, al_e, u_lt, u_le, u_gt, u_ge, u_lt0, u_le0, u_gt0, u_ge0, Classical.not_not, not_true_eq_false, not_false_eq_true, oi_n, oi_m, n_dec, nI_add, pk_mul, n_sub, n_eq, n_le, n_lt, n_eq0, n_lt0, n_le0, n_0lt, n_0le, n_eqm, m_eqn, n_ltm, n_and, n_or, n_xor, n_shl, n_shr, tb1, tb0, bP_1, bP_0, bP_n0, ix_n, inb_n, u_eq, u_eqm]
    exact ⟨fun _ => go false (bP_f (by decide)) (if_pos rfl), fun z => z.elim⟩
  · rcases Nat.lt_or_ge m 2147483648 with m1 | m1
    · refine hP.1 _ _ s_T_fault_0 _ _ _ _ _ ?_
      simp (maxSteps := 1000000) (disch := omega) only [g_T_fault_0, slk, List.map_cons, List.map_nil, List.sum_cons, List.sum_nil, vc_i, vc_r, vc_n, vc_l, vc_o, Nat.add_zero, kO_e, kA_e, hdO_a, eq_self, blk, stp, lg, ls0, lk, ls1, ls2, kI_i, kL_l, kR_r, kR_n, kR_o, s1I_i, s2I_i, s1L_l, s2L_l, s1R_r, s1R_n, s1R_o, s1A_a, cmpc, popn, swt, rf_s, rf_n, cat_i, cat_r, cat_n, cat_l, true_and, and_true, List.length_cons, List.length_nil, Nat.zero_add, Int.reduceToNat, Nat.reduceAdd, Nat.reduceDiv, Nat.reduceMod, Nat.reduceMul, Nat.reduceSub, Nat.reduceLeDiff, Nat.reduceLT, Nat.reduceEqDiff, ↓reduceIte, r_gr_wi, r_gl_wi, r_gk_wi, r_gn_wi, r_wi_eq, r_wi_ne, r_wi_nj, r_gi_wr, r_gl_wr, r_gk_wr, r_gn_wr, r_gr_wa, r_gl_wa, r_gk_wa, r_gn_wa, aa_e, as_e, al_e, u_lt, u_le, u_gt, u_ge, u_lt0, u_le0, u_gt0, u_ge0, Classical.not_not, not_true_eq_false, not_false_eq_true, oi_n, oi_m, n_dec, nI_add, pk_mul, n_sub, n_eq, n_le, n_lt, n_eq0, n_lt0, n_le0, n_0lt, n_0le, n_eqm, m_eqn, n_ltm, n_and, n_or, n_xor, n_shl, n_shr, tb1, tb0, bP_1, bP_0, bP_n0, ix_n, inb_n, u_eq, u_eqm]
      refine ⟨fun z => absurd z m0, fun _ => ?_⟩
      refine hP.1 _ _ s_T_fault_4 _ _ _ _ _ ?_
      simp (maxSteps := 1000000) (disch := omega) only [g_T_fault_4, slk, List.map_cons, List.map_nil, List.sum_cons, List.sum_nil, vc_i, vc_r, vc_n, vc_l, vc_o, Nat.add_zero, kO_e, kA_e, hdO_a, eq_self, blk, stp, lg, ls0, lk, ls1, ls2, kI_i, kL_l, kR_r, kR_n, kR_o, s1I_i, s2I_i, s1L_l, s2L_l, s1R_r, s1R_n, s1R_o, s1A_a, cmpc, popn, swt, rf_s, rf_n, cat_i, cat_r, cat_n, cat_l, true_and, and_true, List.length_cons, List.length_nil, Nat.zero_add, Int.reduceToNat, Nat.reduceAdd, Nat.reduceDiv, Nat.reduceMod, Nat.reduceMul, Nat.reduceSub, Nat.reduceLeDiff, Nat.reduceLT, Nat.reduceEqDiff, ↓reduceIte, r_gr_wi, r_gl_wi, r_gk_wi, r_gn_wi, r_wi_eq, r_wi_ne, r_wi_nj, r_gi_wr, r_gl_wr, r_gk_wr, r_gn_wr, r_gr_wa, r_gl_wa, r_gk_wa, r_gn_wa, aa_e, as_e, al_e, u_lt, u_le, u_gt, u_ge, u_lt0, u_le0, u_gt0, u_ge0, Classical.not_not, not_true_eq_false, not_false_eq_true, oi_n, oi_m, n_dec, nI_add, pk_mul, n_sub, n_eq, n_le, n_lt, n_eq0, n_lt0, n_le0, n_0lt, n_0le, n_eqm, m_eqn, n_ltm, n_and, n_or, n_xor, n_shl, n_shr, tb1, tb0, bP_1, bP_0, bP_n0, ix_n, inb_n, u_eq, u_eqm]
      refine ⟨fun z => no (by omega), fun z => ?_⟩
      have e1 : m = 1 := by omega
      subst e1
      exact go true (bP_t rfl) rfl
    · have ne : ¬ nI m = 0 := fun y => m0 (nI_inj32 hm (by omega) y)
      have ne1 : ¬ nI m = nI 1 := fun y => by have := nI_inj32 hm (by omega) y; omega
      refine hP.1 _ _ s_T_fault_0 _ _ _ _ _ ?_
      simp (maxSteps := 1000000) (disch := omega) only [g_T_fault_0, slk, List.map_cons, List.map_nil, List.sum_cons, List.sum_nil, vc_i, vc_r, vc_n, vc_l, vc_o, Nat.add_zero, kO_e, kA_e, hdO_a, eq_self, blk, stp, lg, ls0, lk, ls1, ls2, kI_i, kL_l, kR_r, kR_n, kR_o, s1I_i, s2I_i, s1L_l, s2L_l, s1R_r, s1R_n, s1R_o, s1A_a, cmpc, popn, swt, rf_s, rf_n, cat_i, cat_r, cat_n, cat_l, true_and, and_true, List.length_cons, List.length_nil, Nat.zero_add, Int.reduceToNat, Nat.reduceAdd, Nat.reduceDiv, Nat.reduceMod, Nat.reduceMul, Nat.reduceSub, Nat.reduceLeDiff, Nat.reduceLT, Nat.reduceEqDiff, ↓reduceIte, r_gr_wi, r_gl_wi, r_gk_wi, r_gn_wi, r_wi_eq, r_wi_ne, r_wi_nj, r_gi_wr, r_gl_wr, r_gk_wr, r_gn_wr, r_gr_wa, r_gl_wa, r_gk_wa, r_gn_wa, aa_e, as_e, al_e, u_lt, u_le, u_gt, u_ge, u_lt0, u_le0, u_gt0, u_ge0, Classical.not_not, not_true_eq_false, not_false_eq_true, oi_n, oi_m, n_dec, nI_add, pk_mul, n_sub, n_eq, n_le, n_lt, n_eq0, n_lt0, n_le0, n_0lt, n_0le, n_eqm, m_eqn, n_ltm, n_and, n_or, n_xor, n_shl, n_shr, tb1, tb0, bP_1, bP_0, bP_n0, ix_n, inb_n, u_eq, u_eqm]
      refine ⟨fun y => absurd y ne, fun _ => ?_⟩
      refine hP.1 _ _ s_T_fault_4 _ _ _ _ _ ?_
      simp (maxSteps := 1000000) (disch := omega) only [g_T_fault_4, slk, List.map_cons, List.map_nil, List.sum_cons, List.sum_nil, vc_i, vc_r, vc_n, vc_l, vc_o, Nat.add_zero, kO_e, kA_e, hdO_a, eq_self, blk, stp, lg, ls0, lk, ls1, ls2, kI_i, kL_l, kR_r, kR_n, kR_o, s1I_i, s2I_i, s1L_l, s2L_l, s1R_r, s1R_n, s1R_o, s1A_a, cmpc, popn, swt, rf_s, rf_n, cat_i, cat_r, cat_n, cat_l, true_and, and_true, List.length_cons, List.length_nil, Nat.zero_add, Int.reduceToNat, Nat.reduceAdd, Nat.reduceDiv, Nat.reduceMod, Nat.reduceMul, Nat.reduceSub, Nat.reduceLeDiff, Nat.reduceLT, Nat.reduceEqDiff, ↓reduceIte, r_gr_wi, r_gl_wi, r_gk_wi, r_gn_wi, r_wi_eq, r_wi_ne, r_wi_nj, r_gi_wr, r_gl_wr, r_gk_wr, r_gn_wr, r_gr_wa, r_gl_wa, r_gk_wa, r_gn_wa, aa_e, as_e, al_e, u_lt, u_le, u_gt, u_ge, u_lt0, u_le0, u_gt0, u_ge0, Classical.not_not, not_true_eq_false, not_false_eq_true, oi_n, oi_m, n_dec, nI_add, pk_mul, n_sub, n_eq, n_le, n_lt, n_eq0, n_lt0, n_le0, n_0lt, n_0le, n_eqm, m_eqn, n_ltm, n_and, n_or, n_xor, n_shl, n_shr, tb1, tb0, bP_1, bP_0, bP_n0, ix_n, inb_n, u_eq, u_eqm]
      exact ⟨fun _ => no (by omega), fun y => (by exfalso; omega)⟩
end
