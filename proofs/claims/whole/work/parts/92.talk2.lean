/-! ===== the class: the last day, silence, heed, a look ===== -/
theorem wgL_00 (w : Option Int32) : (lg_cmp (wgL w) (Int64.ofInt 0) = 0) = (w = some 0) := by
  cases w with
  | none =>
    rw [lc_eq0]
    exact propext ⟨fun h => absurd h (by decide), fun h => by cases h⟩
  | some v =>
    rw [wgL_0]
    exact propext ⟨fun h => by rw [h], fun h => by cases h; rfl⟩
theorem wgL_t (v : Int32) : (wgL (some v)).toInt = v.toInt := Int32.toInt_toInt64 v
theorem wgL_32 (v : Int32) : (wgL (some v)).toInt32 = v := by
  have := i32_b v
  show v.toInt64.toInt32 = v
  apply Int32.toInt_inj.mp
  rw [Int64.toInt_toInt32, Int32.toInt_toInt64]
  exact Int.bmod_eq_of_le (by omega) (by omega)
theorem i32_nat {v : Int32} (h : 0 ≤ v.toInt) : v = nI v.toInt.toNat := by
  have := i32_b v
  apply Int32.toInt_inj.mp
  rw [nI_toInt (by omega)]
  omega
theorem un_ab {h : AH} {s : St} (W : RH h s) (g0 : s 107 22 = 0) {m x : Nat} (hm : m < s 107 19) (hx : isPr s m x) : (unB s m (slN (s 112 m) (s 113 m) x) &&& thoN s = 0) ↔ abP s m x := by
  rw [and_bit0]
  constructor
  · intro q j hj
    have mem := sd_mem hj
    have st := (mem_seats W).mp mem
    apply Classical.byContradiction
    intro z
    exact q (sd s j) ⟨(un_pr W g0 st.1 hm hx).mpr z, (tho_bit W _).mpr st⟩
  · rintro q e ⟨h1, h2⟩
    have st := (tho_bit W e).mp h2
    have mem := (mem_seats W).mpr st
    obtain ⟨j, hj, ej⟩ := List.mem_iff_getElem.mp mem
    have := q j hj
    have esd : sd s j = e := by
      unfold sd
      rw [List.getD_eq_getElem?_getD, List.getElem?_eq_getElem hj]
      exact ej
    rw [esd] at this
    exact (un_pr W g0 st.1 hm hx).mp h1 this
theorem f23 {h : AH} (L : Lay h) {e : Nat} (he : e < 8) : gr h 23 e = some (24 + e) ∧ gk h (24 + e) = some (.inr (0, 8)) := by
  rcases (by omega : e = 0 ∨ e = 1 ∨ e = 2 ∨ e = 3 ∨ e = 4 ∨ e = 5 ∨ e = 6 ∨ e = 7) with rfl | rfl | rfl | rfl | rfl | rfl | rfl | rfl
  · exact ⟨f23_0 L, k24 L⟩
  · exact ⟨f23_1 L, k25 L⟩
  · exact ⟨f23_2 L, k26 L⟩
  · exact ⟨f23_3 L, k27 L⟩
  · exact ⟨f23_4 L, k28 L⟩
  · exact ⟨f23_5 L, k29 L⟩
  · exact ⟨f23_6 L, k30 L⟩
  · exact ⟨f23_7 L, k31 L⟩
noncomputable def hdN (s : St) (f : Nat → Nat) (e i n : Nat) : Nat := smN n (fun o => nif ((f o).testBit i = true) (s 109 (8 * e + o)) 0)
theorem hd_hf {h : AH} {s : St} (W : RH h s) (I : PI s) {f : Nat → Nat} {e i bits : Nat} (he : e < 8) (hb : ∀ o, o < 8 → ((f o).testBit i = true ↔ bits.testBit o = true)) : hdN s f e i 8 = hfN s e bits := by
  have b1 := rs_e W
  have ext : ∀ n, n ≤ 8 → s 107 18 ≤ n → hdN s f e i n = hdN s f e i (s 107 18) := by
    intro n
    induction n with
    | zero =>
      intro _ h2
      rw [show s 107 18 = 0 by omega]
    | succ n ih =>
      intro h1 h2
      by_cases q : s 107 18 = n + 1
      · rw [q]
      · have z : s 109 (8 * e + n) = 0 := I.2.2 e n he (by omega) (Or.inr (Or.inl (by omega)))
        show hdN s f e i n + nif ((f n).testBit i = true) (s 109 (8 * e + n)) 0 = _
        rw [ih (by omega) (by omega), z]
        by_cases y : (f n).testBit i = true
        · rw [nif_t y]
          rfl
        · rw [nif_f y]
          rfl
  rw [ext 8 (Nat.le_refl _) b1]
  refine smN_congr fun o ho => ?_
  by_cases q : (f o).testBit i = true
  · have q2 := (hb o (by omega)).mp q
    rw [nif_t q]
    by_cases y : o = e
    · rw [nif_f (fun z => z.2 y)]
      exact I.2.2 e o he (by omega) (Or.inr (Or.inr y.symm))
    · rw [nif_t ⟨q2, y⟩]
  · rw [nif_f q, nif_f (fun z => q ((hb o (by omega)).mpr z.1))]
section
variable {h : AH} {s : St} {d m b : Nat}
def PNs (h : AH) (n : Nat) (r : Option (Option Value)) (h' : AH) : Prop := r = some (some (.int (nI n))) ∧ Fp XSc h h'
theorem c_Ta_lastDay (W : RH h s) {h2 : AH} (E : EV h2 s m b) (hm : m < s 107 19) {T : Nat} (hT : isT T) (h3 : gr h2 T 3 = some b) : Mz (d + 3) 216 [.ref T] h2 0 0 (PNs h2 (ldN s m)) := by
  have tb := ta_b hT
  have L := E.1
  have n21 : ¬ (fun a => a = 43) 21 := by decide
  refine mz_in (l := [some (.ref T), none, none]) mk_Ta_lastDay n_Ta_lastDay rfl l_Ta_lastDay rfl (Nat.le_of_ble_eq_true rfl) fun P hP => ?_
  refine hP.1 _ _ s_Ta_lastDay_0 _ _ _ _ _ ?_
  simp (maxSteps := 1000000) (disch := omega) only [g_Ta_lastDay_0, slk, List.map_cons, List.map_nil, List.sum_cons, List.sum_nil, vc_i, vc_r, vc_n, vc_l, vc_o, Nat.add_zero, kO_e, kA_e, hdO_a, eq_self, blk, stp, lg, ls0, lk, ls1, ls2, kI_i, kL_l, kR_r, kR_n, kR_o, s1I_i, s2I_i, s1L_l, s2L_l, s1R_r, s1R_n, s1R_o, s1A_a, cmpc, popn, swt, rf_s, rf_n, cat_i, cat_r, cat_n, cat_l, true_and, and_true, List.length_cons, List.length_nil, Nat.zero_add, Int.reduceToNat, Nat.reduceAdd, Nat.reduceDiv, Nat.reduceMod, Nat.reduceMul, Nat.reduceSub, Nat.reduceLeDiff, Nat.reduceLT, Nat.reduceEqDiff, ↓reduceIte, r_gr_wi, r_gl_wi, r_gk_wi, r_gn_wi, r_wi_eq, r_wi_ne, r_wi_nj, r_gi_wr, r_gl_wr, r_gk_wr, r_gn_wr, r_gr_wa, r_gl_wa, r_gk_wa, r_gn_wa, aa_e, as_e, al_e, u_lt, u_le, u_gt, u_ge, u_lt0, u_le0, u_gt0, u_ge0, Classical.not_not, not_true_eq_false, not_false_eq_true, oi_n, oi_m, n_dec, nI_add, pk_mul, n_sub, n_eq, n_le, n_lt, n_eq0, n_lt0, n_le0, n_0lt, n_0le, n_eqm, m_eqn, n_ltm, n_and, n_or, n_xor, n_shl, n_shr, tb1, tb0, bP_1, bP_0, bP_n0, ix_n, inb_n, u_eq, u_eqm, (ta_k L hT).1, (ta_k L hT).2.1, (ta_k L hT).2.2.1, (ta_k L hT).2.2.2.1, (ta_k L hT).2.2.2.2.1, (ta_k L hT).2.2.2.2.2.1, (ta_k L hT).2.2.2.2.2.2.1, (ta_k L hT).2.2.2.2.2.2.2, (ta_r L hT).1, (ta_r L hT).2.1, (ta_r L hT).2.2.1, (ta_r L hT).2.2.2.1, (ta_r L hT).2.2.2.2.1, (ta_r L hT).2.2.2.2.2.1, (ta_r L hT).2.2.2.2.2.2.1, (ta_r L hT).2.2.2.2.2.2.2.1, (ta_r L hT).2.2.2.2.2.2.2.2.1, (ta_r L hT).2.2.2.2.2.2.2.2.2, k21 L, k42 L, k33 L, k32 L, f21_0 L, f21_1 L, f21_2 L, f21_3 L]
  refine ⟨_, _, _, c_Sc_clearR L, ⟨by omega, by omega⟩, ?_⟩
  rintro r H1 ⟨rfl, F, T1⟩
  have L := F.lay L
  simp (maxSteps := 1000000) (disch := omega) only [slk, List.map_cons, List.map_nil, List.sum_cons, List.sum_nil, vc_i, vc_r, vc_n, vc_l, vc_o, Nat.add_zero, kO_e, kA_e, hdO_a, eq_self, blk, stp, lg, ls0, lk, ls1, ls2, kI_i, kL_l, kR_r, kR_n, kR_o, s1I_i, s2I_i, s1L_l, s2L_l, s1R_r, s1R_n, s1R_o, s1A_a, cmpc, popn, swt, rf_s, rf_n, cat_i, cat_r, cat_n, cat_l, true_and, and_true, List.length_cons, List.length_nil, Nat.zero_add, Int.reduceToNat, Nat.reduceAdd, Nat.reduceDiv, Nat.reduceMod, Nat.reduceMul, Nat.reduceSub, Nat.reduceLeDiff, Nat.reduceLT, Nat.reduceEqDiff, ↓reduceIte, r_gr_wi, r_gl_wi, r_gk_wi, r_gn_wi, r_wi_eq, r_wi_ne, r_wi_nj, r_gi_wr, r_gl_wr, r_gk_wr, r_gn_wr, r_gr_wa, r_gl_wa, r_gk_wa, r_gn_wa, aa_e, as_e, al_e, u_lt, u_le, u_gt, u_ge, u_lt0, u_le0, u_gt0, u_ge0, Classical.not_not, not_true_eq_false, not_false_eq_true, oi_n, oi_m, n_dec, nI_add, pk_mul, n_sub, n_eq, n_le, n_lt, n_eq0, n_lt0, n_le0, n_0lt, n_0le, n_eqm, m_eqn, n_ltm, n_and, n_or, n_xor, n_shl, n_shr, tb1, tb0, bP_1, bP_0, bP_n0, ix_n, inb_n, u_eq, u_eqm, (ta_k L hT).1, (ta_k L hT).2.1, (ta_k L hT).2.2.1, (ta_k L hT).2.2.2.1, (ta_k L hT).2.2.2.2.1, (ta_k L hT).2.2.2.2.2.1, (ta_k L hT).2.2.2.2.2.2.1, (ta_k L hT).2.2.2.2.2.2.2, (ta_r L hT).1, (ta_r L hT).2.1, (ta_r L hT).2.2.1, (ta_r L hT).2.2.2.1, (ta_r L hT).2.2.2.2.1, (ta_r L hT).2.2.2.2.2.1, (ta_r L hT).2.2.2.2.2.2.1, (ta_r L hT).2.2.2.2.2.2.2.1, (ta_r L hT).2.2.2.2.2.2.2.2.1, (ta_r L hT).2.2.2.2.2.2.2.2.2, k21 L, k42 L, k33 L, k32 L, f21_0 L, f21_1 L, f21_2 L, f21_3 L, (F.at n21 5).trans E.2.1.1.2.1]
  refine ⟨_, _, _, c_Sc_tellR (c := 109) L T1 (by omega) (by omega), ⟨by omega, by omega⟩, ?_⟩
  rintro r H2 ⟨rfl, F1, T1⟩
  have L := F1.lay L
  have F := F.trans F1
  have E6 := F.ev43 E
  have h36 : gr H2 T 3 = some b := by rw [F.gr]; exact h3
  have mk := ma_k E6.2.2.1
  simp (maxSteps := 1000000) (disch := omega) only [slk, List.map_cons, List.map_nil, List.sum_cons, List.sum_nil, vc_i, vc_r, vc_n, vc_l, vc_o, Nat.add_zero, kO_e, kA_e, hdO_a, eq_self, blk, stp, lg, ls0, lk, ls1, ls2, kI_i, kL_l, kR_r, kR_n, kR_o, s1I_i, s2I_i, s1L_l, s2L_l, s1R_r, s1R_n, s1R_o, s1A_a, cmpc, popn, swt, rf_s, rf_n, cat_i, cat_r, cat_n, cat_l, true_and, and_true, List.length_cons, List.length_nil, Nat.zero_add, Int.reduceToNat, Nat.reduceAdd, Nat.reduceDiv, Nat.reduceMod, Nat.reduceMul, Nat.reduceSub, Nat.reduceLeDiff, Nat.reduceLT, Nat.reduceEqDiff, ↓reduceIte, r_gr_wi, r_gl_wi, r_gk_wi, r_gn_wi, r_wi_eq, r_wi_ne, r_wi_nj, r_gi_wr, r_gl_wr, r_gk_wr, r_gn_wr, r_gr_wa, r_gl_wa, r_gk_wa, r_gn_wa, aa_e, as_e, al_e, u_lt, u_le, u_gt, u_ge, u_lt0, u_le0, u_gt0, u_ge0, Classical.not_not, not_true_eq_false, not_false_eq_true, oi_n, oi_m, n_dec, nI_add, pk_mul, n_sub, n_eq, n_le, n_lt, n_eq0, n_lt0, n_le0, n_0lt, n_0le, n_eqm, m_eqn, n_ltm, n_and, n_or, n_xor, n_shl, n_shr, tb1, tb0, bP_1, bP_0, bP_n0, ix_n, inb_n, u_eq, u_eqm, (ta_k L hT).1, (ta_k L hT).2.1, (ta_k L hT).2.2.1, (ta_k L hT).2.2.2.1, (ta_k L hT).2.2.2.2.1, (ta_k L hT).2.2.2.2.2.1, (ta_k L hT).2.2.2.2.2.2.1, (ta_k L hT).2.2.2.2.2.2.2, (ta_r L hT).1, (ta_r L hT).2.1, (ta_r L hT).2.2.1, (ta_r L hT).2.2.2.1, (ta_r L hT).2.2.2.2.1, (ta_r L hT).2.2.2.2.2.1, (ta_r L hT).2.2.2.2.2.2.1, (ta_r L hT).2.2.2.2.2.2.2.1, (ta_r L hT).2.2.2.2.2.2.2.2.1, (ta_r L hT).2.2.2.2.2.2.2.2.2, k21 L, k42 L, k33 L, k32 L, f21_0 L, f21_1 L, f21_2 L, f21_3 L, h36, mk]
  refine ⟨_, _, _, c_Sc_law (ps := [(109, nI (sn s))]) W E6 T1 hm (lb := 100) (by omega), ⟨by omega, by omega⟩, ?_⟩
  rintro r H7 ⟨rfl, F7⟩
  have FF : Fp XSc h2 H7 := (F.mono x43).trans (F7.mono x44)
  have eW : ldN s m = match lawW s m 100 [(109, nI (sn s))] with
    | none => 30
    | some v => (max 1 (min 30 v.toInt)).toNat := rfl
  have e30 : (Int64.ofInt 30).toInt = 30 := by decide
  have e1 : (Int64.ofInt 1).toInt = 1 := by decide
  have j56 : ∀ x, ldN s m = 30 → P 56 [some (.ref T), some (.long x), none] [] H7 0 0 := by
    intro x e
    refine hP.1 _ _ s_Ta_lastDay_56 _ _ _ _ _ ?_
    simp (maxSteps := 1000000) (disch := omega) only [g_Ta_lastDay_56, slk, List.map_cons, List.map_nil, List.sum_cons, List.sum_nil, vc_i, vc_r, vc_n, vc_l, vc_o, Nat.add_zero, kO_e, kA_e, hdO_a, eq_self, blk, stp, lg, ls0, lk, ls1, ls2, kI_i, kL_l, kR_r, kR_n, kR_o, s1I_i, s2I_i, s1L_l, s2L_l, s1R_r, s1R_n, s1R_o, s1A_a, cmpc, popn, swt, rf_s, rf_n, cat_i, cat_r, cat_n, cat_l, true_and, and_true, List.length_cons, List.length_nil, Nat.zero_add, Int.reduceToNat, Nat.reduceAdd, Nat.reduceDiv, Nat.reduceMod, Nat.reduceMul, Nat.reduceSub, Nat.reduceLeDiff, Nat.reduceLT, Nat.reduceEqDiff, ↓reduceIte, r_gr_wi, r_gl_wi, r_gk_wi, r_gn_wi, r_wi_eq, r_wi_ne, r_wi_nj, r_gi_wr, r_gl_wr, r_gk_wr, r_gn_wr, r_gr_wa, r_gl_wa, r_gk_wa, r_gn_wa, aa_e, as_e, al_e, u_lt, u_le, u_gt, u_ge, u_lt0, u_le0, u_gt0, u_ge0, Classical.not_not, not_true_eq_false, not_false_eq_true, oi_n, oi_m, n_dec, nI_add, pk_mul, n_sub, n_eq, n_le, n_lt, n_eq0, n_lt0, n_le0, n_0lt, n_0le, n_eqm, m_eqn, n_ltm, n_and, n_or, n_xor, n_shl, n_shr, tb1, tb0, bP_1, bP_0, bP_n0, ix_n, inb_n, u_eq, u_eqm, (ta_k L hT).1, (ta_k L hT).2.1, (ta_k L hT).2.2.1, (ta_k L hT).2.2.2.1, (ta_k L hT).2.2.2.2.1, (ta_k L hT).2.2.2.2.2.1, (ta_k L hT).2.2.2.2.2.2.1, (ta_k L hT).2.2.2.2.2.2.2, (ta_r L hT).1, (ta_r L hT).2.1, (ta_r L hT).2.2.1, (ta_r L hT).2.2.2.1, (ta_r L hT).2.2.2.2.1, (ta_r L hT).2.2.2.2.2.1, (ta_r L hT).2.2.2.2.2.2.1, (ta_r L hT).2.2.2.2.2.2.2.1, (ta_r L hT).2.2.2.2.2.2.2.2.1, (ta_r L hT).2.2.2.2.2.2.2.2.2, k21 L, k42 L, k33 L, k32 L, f21_0 L, f21_1 L, f21_2 L, f21_3 L, h36, mk]
    rw [r_Ta_lastDay]
    exact ⟨trivial, by rw [e], FF⟩
  simp (maxSteps := 1000000) (disch := omega) only [slk, List.map_cons, List.map_nil, List.sum_cons, List.sum_nil, vc_i, vc_r, vc_n, vc_l, vc_o, Nat.add_zero, kO_e, kA_e, hdO_a, eq_self, blk, stp, lg, ls0, lk, ls1, ls2, kI_i, kL_l, kR_r, kR_n, kR_o, s1I_i, s2I_i, s1L_l, s2L_l, s1R_r, s1R_n, s1R_o, s1A_a, cmpc, popn, swt, rf_s, rf_n, cat_i, cat_r, cat_n, cat_l, true_and, and_true, List.length_cons, List.length_nil, Nat.zero_add, Int.reduceToNat, Nat.reduceAdd, Nat.reduceDiv, Nat.reduceMod, Nat.reduceMul, Nat.reduceSub, Nat.reduceLeDiff, Nat.reduceLT, Nat.reduceEqDiff, ↓reduceIte, r_gr_wi, r_gl_wi, r_gk_wi, r_gn_wi, r_wi_eq, r_wi_ne, r_wi_nj, r_gi_wr, r_gl_wr, r_gk_wr, r_gn_wr, r_gr_wa, r_gl_wa, r_gk_wa, r_gn_wa, aa_e, as_e, al_e, u_lt, u_le, u_gt, u_ge, u_lt0, u_le0, u_gt0, u_ge0, Classical.not_not, not_true_eq_false, not_false_eq_true, oi_n, oi_m, n_dec, nI_add, pk_mul, n_sub, n_eq, n_le, n_lt, n_eq0, n_lt0, n_le0, n_0lt, n_0le, n_eqm, m_eqn, n_ltm, n_and, n_or, n_xor, n_shl, n_shr, tb1, tb0, bP_1, bP_0, bP_n0, ix_n, inb_n, u_eq, u_eqm, wgL_no]
  cases w : lawW s m 100 [(109, nI (sn s))] with
  | none =>
    rw [w] at eW
    refine ⟨fun _ => j56 _ eW, fun q => absurd rfl q⟩
  | some v =>
    rw [w] at eW
    dsimp only at eW
    have v32 := wgL_32 v
    refine ⟨fun q => (by cases q), fun _ => ?_⟩
    refine hP.1 _ _ s_Ta_lastDay_48 _ _ _ _ _ ?_
    simp (maxSteps := 1000000) (disch := omega) only [g_Ta_lastDay_48, slk, List.map_cons, List.map_nil, List.sum_cons, List.sum_nil, vc_i, vc_r, vc_n, vc_l, vc_o, Nat.add_zero, kO_e, kA_e, hdO_a, eq_self, blk, stp, lg, ls0, lk, ls1, ls2, kI_i, kL_l, kR_r, kR_n, kR_o, s1I_i, s2I_i, s1L_l, s2L_l, s1R_r, s1R_n, s1R_o, s1A_a, cmpc, popn, swt, rf_s, rf_n, cat_i, cat_r, cat_n, cat_l, true_and, and_true, List.length_cons, List.length_nil, Nat.zero_add, Int.reduceToNat, Nat.reduceAdd, Nat.reduceDiv, Nat.reduceMod, Nat.reduceMul, Nat.reduceSub, Nat.reduceLeDiff, Nat.reduceLT, Nat.reduceEqDiff, ↓reduceIte, r_gr_wi, r_gl_wi, r_gk_wi, r_gn_wi, r_wi_eq, r_wi_ne, r_wi_nj, r_gi_wr, r_gl_wr, r_gk_wr, r_gn_wr, r_gr_wa, r_gl_wa, r_gk_wa, r_gn_wa, aa_e, as_e, al_e, u_lt, u_le, u_gt, u_ge, u_lt0, u_le0, u_gt0, u_ge0, Classical.not_not, not_true_eq_false, not_false_eq_true, oi_n, oi_m, n_dec, nI_add, pk_mul, n_sub, n_eq, n_le, n_lt, n_eq0, n_lt0, n_le0, n_0lt, n_0le, n_eqm, m_eqn, n_ltm, n_and, n_or, n_xor, n_shl, n_shr, tb1, tb0, bP_1, bP_0, bP_n0, ix_n, inb_n, u_eq, u_eqm, lc_le0, lc_ge0, e30, e1, wgL_t, v32]
    refine ⟨fun q => ?_, fun q => j56 _ (by rw [eW, show max 1 (min 30 v.toInt) = 30 by omega]; rfl)⟩
    refine hP.1 _ _ s_Ta_lastDay_59 _ _ _ _ _ ?_
    simp (maxSteps := 1000000) (disch := omega) only [g_Ta_lastDay_59, slk, List.map_cons, List.map_nil, List.sum_cons, List.sum_nil, vc_i, vc_r, vc_n, vc_l, vc_o, Nat.add_zero, kO_e, kA_e, hdO_a, eq_self, blk, stp, lg, ls0, lk, ls1, ls2, kI_i, kL_l, kR_r, kR_n, kR_o, s1I_i, s2I_i, s1L_l, s2L_l, s1R_r, s1R_n, s1R_o, s1A_a, cmpc, popn, swt, rf_s, rf_n, cat_i, cat_r, cat_n, cat_l, true_and, and_true, List.length_cons, List.length_nil, Nat.zero_add, Int.reduceToNat, Nat.reduceAdd, Nat.reduceDiv, Nat.reduceMod, Nat.reduceMul, Nat.reduceSub, Nat.reduceLeDiff, Nat.reduceLT, Nat.reduceEqDiff, ↓reduceIte, r_gr_wi, r_gl_wi, r_gk_wi, r_gn_wi, r_wi_eq, r_wi_ne, r_wi_nj, r_gi_wr, r_gl_wr, r_gk_wr, r_gn_wr, r_gr_wa, r_gl_wa, r_gk_wa, r_gn_wa, aa_e, as_e, al_e, u_lt, u_le, u_gt, u_ge, u_lt0, u_le0, u_gt0, u_ge0, Classical.not_not, not_true_eq_false, not_false_eq_true, oi_n, oi_m, n_dec, nI_add, pk_mul, n_sub, n_eq, n_le, n_lt, n_eq0, n_lt0, n_le0, n_0lt, n_0le, n_eqm, m_eqn, n_ltm, n_and, n_or, n_xor, n_shl, n_shr, tb1, tb0, bP_1, bP_0, bP_n0, ix_n, inb_n, u_eq, u_eqm, lc_le0, lc_ge0, e30, e1, wgL_t, v32]
    refine ⟨fun q2 => ?_, fun q2 => ?_⟩
    · refine hP.1 _ _ s_Ta_lastDay_69 _ _ _ _ _ ?_
      simp (maxSteps := 1000000) (disch := omega) only [g_Ta_lastDay_69, slk, List.map_cons, List.map_nil, List.sum_cons, List.sum_nil, vc_i, vc_r, vc_n, vc_l, vc_o, Nat.add_zero, kO_e, kA_e, hdO_a, eq_self, blk, stp, lg, ls0, lk, ls1, ls2, kI_i, kL_l, kR_r, kR_n, kR_o, s1I_i, s2I_i, s1L_l, s2L_l, s1R_r, s1R_n, s1R_o, s1A_a, cmpc, popn, swt, rf_s, rf_n, cat_i, cat_r, cat_n, cat_l, true_and, and_true, List.length_cons, List.length_nil, Nat.zero_add, Int.reduceToNat, Nat.reduceAdd, Nat.reduceDiv, Nat.reduceMod, Nat.reduceMul, Nat.reduceSub, Nat.reduceLeDiff, Nat.reduceLT, Nat.reduceEqDiff, ↓reduceIte, r_gr_wi, r_gl_wi, r_gk_wi, r_gn_wi, r_wi_eq, r_wi_ne, r_wi_nj, r_gi_wr, r_gl_wr, r_gk_wr, r_gn_wr, r_gr_wa, r_gl_wa, r_gk_wa, r_gn_wa, aa_e, as_e, al_e, u_lt, u_le, u_gt, u_ge, u_lt0, u_le0, u_gt0, u_ge0, Classical.not_not, not_true_eq_false, not_false_eq_true, oi_n, oi_m, n_dec, nI_add, pk_mul, n_sub, n_eq, n_le, n_lt, n_eq0, n_lt0, n_le0, n_0lt, n_0le, n_eqm, m_eqn, n_ltm, n_and, n_or, n_xor, n_shl, n_shr, tb1, tb0, bP_1, bP_0, bP_n0, ix_n, inb_n, u_eq, u_eqm, lc_le0, lc_ge0, e30, e1, wgL_t, v32]
      refine hP.1 _ _ s_Ta_lastDay_71 _ _ _ _ _ ?_
      simp (maxSteps := 1000000) (disch := omega) only [g_Ta_lastDay_71, slk, List.map_cons, List.map_nil, List.sum_cons, List.sum_nil, vc_i, vc_r, vc_n, vc_l, vc_o, Nat.add_zero, kO_e, kA_e, hdO_a, eq_self, blk, stp, lg, ls0, lk, ls1, ls2, kI_i, kL_l, kR_r, kR_n, kR_o, s1I_i, s2I_i, s1L_l, s2L_l, s1R_r, s1R_n, s1R_o, s1A_a, cmpc, popn, swt, rf_s, rf_n, cat_i, cat_r, cat_n, cat_l, true_and, and_true, List.length_cons, List.length_nil, Nat.zero_add, Int.reduceToNat, Nat.reduceAdd, Nat.reduceDiv, Nat.reduceMod, Nat.reduceMul, Nat.reduceSub, Nat.reduceLeDiff, Nat.reduceLT, Nat.reduceEqDiff, ↓reduceIte, r_gr_wi, r_gl_wi, r_gk_wi, r_gn_wi, r_wi_eq, r_wi_ne, r_wi_nj, r_gi_wr, r_gl_wr, r_gk_wr, r_gn_wr, r_gr_wa, r_gl_wa, r_gk_wa, r_gn_wa, aa_e, as_e, al_e, u_lt, u_le, u_gt, u_ge, u_lt0, u_le0, u_gt0, u_ge0, Classical.not_not, not_true_eq_false, not_false_eq_true, oi_n, oi_m, n_dec, nI_add, pk_mul, n_sub, n_eq, n_le, n_lt, n_eq0, n_lt0, n_le0, n_0lt, n_0le, n_eqm, m_eqn, n_ltm, n_and, n_or, n_xor, n_shl, n_shr, tb1, tb0, bP_1, bP_0, bP_n0, ix_n, inb_n, u_eq, u_eqm, lc_le0, lc_ge0, e30, e1, wgL_t, v32]
      rw [r_Ta_lastDay]
      exact ⟨trivial, by rw [eW, show (max 1 (min 30 v.toInt)).toNat = v.toInt.toNat by omega, ← i32_nat (by omega)], FF⟩
    · refine hP.1 _ _ s_Ta_lastDay_65 _ _ _ _ _ ?_
      simp (maxSteps := 1000000) (disch := omega) only [g_Ta_lastDay_65, slk, List.map_cons, List.map_nil, List.sum_cons, List.sum_nil, vc_i, vc_r, vc_n, vc_l, vc_o, Nat.add_zero, kO_e, kA_e, hdO_a, eq_self, blk, stp, lg, ls0, lk, ls1, ls2, kI_i, kL_l, kR_r, kR_n, kR_o, s1I_i, s2I_i, s1L_l, s2L_l, s1R_r, s1R_n, s1R_o, s1A_a, cmpc, popn, swt, rf_s, rf_n, cat_i, cat_r, cat_n, cat_l, true_and, and_true, List.length_cons, List.length_nil, Nat.zero_add, Int.reduceToNat, Nat.reduceAdd, Nat.reduceDiv, Nat.reduceMod, Nat.reduceMul, Nat.reduceSub, Nat.reduceLeDiff, Nat.reduceLT, Nat.reduceEqDiff, ↓reduceIte, r_gr_wi, r_gl_wi, r_gk_wi, r_gn_wi, r_wi_eq, r_wi_ne, r_wi_nj, r_gi_wr, r_gl_wr, r_gk_wr, r_gn_wr, r_gr_wa, r_gl_wa, r_gk_wa, r_gn_wa, aa_e, as_e, al_e, u_lt, u_le, u_gt, u_ge, u_lt0, u_le0, u_gt0, u_ge0, Classical.not_not, not_true_eq_false, not_false_eq_true, oi_n, oi_m, n_dec, nI_add, pk_mul, n_sub, n_eq, n_le, n_lt, n_eq0, n_lt0, n_le0, n_0lt, n_0le, n_eqm, m_eqn, n_ltm, n_and, n_or, n_xor, n_shl, n_shr, tb1, tb0, bP_1, bP_0, bP_n0, ix_n, inb_n, u_eq, u_eqm, lc_le0, lc_ge0, e30, e1, wgL_t, v32]
      refine hP.1 _ _ s_Ta_lastDay_71 _ _ _ _ _ ?_
      simp (maxSteps := 1000000) (disch := omega) only [g_Ta_lastDay_71, slk, List.map_cons, List.map_nil, List.sum_cons, List.sum_nil, vc_i, vc_r, vc_n, vc_l, vc_o, Nat.add_zero, kO_e, kA_e, hdO_a, eq_self, blk, stp, lg, ls0, lk, ls1, ls2, kI_i, kL_l, kR_r, kR_n, kR_o, s1I_i, s2I_i, s1L_l, s2L_l, s1R_r, s1R_n, s1R_o, s1A_a, cmpc, popn, swt, rf_s, rf_n, cat_i, cat_r, cat_n, cat_l, true_and, and_true, List.length_cons, List.length_nil, Nat.zero_add, Int.reduceToNat, Nat.reduceAdd, Nat.reduceDiv, Nat.reduceMod, Nat.reduceMul, Nat.reduceSub, Nat.reduceLeDiff, Nat.reduceLT, Nat.reduceEqDiff, ↓reduceIte, r_gr_wi, r_gl_wi, r_gk_wi, r_gn_wi, r_wi_eq, r_wi_ne, r_wi_nj, r_gi_wr, r_gl_wr, r_gk_wr, r_gn_wr, r_gr_wa, r_gl_wa, r_gk_wa, r_gn_wa, aa_e, as_e, al_e, u_lt, u_le, u_gt, u_ge, u_lt0, u_le0, u_gt0, u_ge0, Classical.not_not, not_true_eq_false, not_false_eq_true, oi_n, oi_m, n_dec, nI_add, pk_mul, n_sub, n_eq, n_le, n_lt, n_eq0, n_lt0, n_le0, n_0lt, n_0le, n_eqm, m_eqn, n_ltm, n_and, n_or, n_xor, n_shl, n_shr, tb1, tb0, bP_1, bP_0, bP_n0, ix_n, inb_n, u_eq, u_eqm, lc_le0, lc_ge0, e30, e1, wgL_t, v32]
      rw [r_Ta_lastDay]
      exact ⟨trivial, by rw [eW, show (max 1 (min 30 v.toInt)).toNat = 1 by omega], FF⟩
theorem c_Ta_failsBySilence (W : RH h s) (g0 : s 107 22 = 0) {h2 : AH} (E : EV h2 s m b) (hm : m < s 107 19) {T : Nat} (hT : isT T) (h3 : gr h2 T 3 = some b) {ws : List Wd} {g today day : Nat} (S : TS h2 T ws g today day) (hg : isPr s m g) : Mz (d + 3) 218 [.ref T] h2 0 0 (PTs h2 (slP s m g day)) := by
  have tb := ta_b hT
  have L := E.1
  have b4 := rs_p W hm
  have b5 := sh_1024 b4.2.1
  have n21 : ¬ (fun a => a = 43) 21 := by decide
  have n43 : ¬ (fun a => a = 43) T := by show ¬ T = 43; omega
  refine mz_in (l := [some (.ref T)]) mk_Ta_failsBySilence n_Ta_failsBySilence rfl l_Ta_failsBySilence rfl (Nat.le_of_ble_eq_true rfl) fun P hP => ?_
  refine hP.1 _ _ s_Ta_failsBySilence_0 _ _ _ _ _ ?_
  simp (maxSteps := 1000000) (disch := omega) only [g_Ta_failsBySilence_0, slk, List.map_cons, List.map_nil, List.sum_cons, List.sum_nil, vc_i, vc_r, vc_n, vc_l, vc_o, Nat.add_zero, kO_e, kA_e, hdO_a, eq_self, blk, stp, lg, ls0, lk, ls1, ls2, kI_i, kL_l, kR_r, kR_n, kR_o, s1I_i, s2I_i, s1L_l, s2L_l, s1R_r, s1R_n, s1R_o, s1A_a, cmpc, popn, swt, rf_s, rf_n, cat_i, cat_r, cat_n, cat_l, true_and, and_true, List.length_cons, List.length_nil, Nat.zero_add, Int.reduceToNat, Nat.reduceAdd, Nat.reduceDiv, Nat.reduceMod, Nat.reduceMul, Nat.reduceSub, Nat.reduceLeDiff, Nat.reduceLT, Nat.reduceEqDiff, ↓reduceIte, r_gr_wi, r_gl_wi, r_gk_wi, r_gn_wi, r_wi_eq, r_wi_ne, r_wi_nj, r_gi_wr, r_gl_wr, r_gk_wr, r_gn_wr, r_gr_wa, r_gl_wa, r_gk_wa, r_gn_wa, aa_e, as_e, al_e, u_lt, u_le, u_gt, u_ge, u_lt0, u_le0, u_gt0, u_ge0, Classical.not_not, not_true_eq_false, not_false_eq_true, oi_n, oi_m, n_dec, nI_add, pk_mul, n_sub, n_eq, n_le, n_lt, n_eq0, n_lt0, n_le0, n_0lt, n_0le, n_eqm, m_eqn, n_ltm, n_and, n_or, n_xor, n_shl, n_shr, tb1, tb0, bP_1, bP_0, bP_n0, ix_n, inb_n, u_eq, u_eqm, (ta_k L hT).1, (ta_k L hT).2.1, (ta_k L hT).2.2.1, (ta_k L hT).2.2.2.1, (ta_k L hT).2.2.2.2.1, (ta_k L hT).2.2.2.2.2.1, (ta_k L hT).2.2.2.2.2.2.1, (ta_k L hT).2.2.2.2.2.2.2, (ta_r L hT).1, (ta_r L hT).2.1, (ta_r L hT).2.2.1, (ta_r L hT).2.2.2.1, (ta_r L hT).2.2.2.2.1, (ta_r L hT).2.2.2.2.2.1, (ta_r L hT).2.2.2.2.2.2.1, (ta_r L hT).2.2.2.2.2.2.2.1, (ta_r L hT).2.2.2.2.2.2.2.2.1, (ta_r L hT).2.2.2.2.2.2.2.2.2, k21 L, k42 L, k33 L, k32 L, f21_0 L, f21_1 L, f21_2 L, f21_3 L]
  refine ⟨_, _, _, c_Sc_clearR L, ⟨by omega, by omega⟩, ?_⟩
  rintro r H1 ⟨rfl, F, T1⟩
  have L := F.lay L
  simp (maxSteps := 1000000) (disch := omega) only [slk, List.map_cons, List.map_nil, List.sum_cons, List.sum_nil, vc_i, vc_r, vc_n, vc_l, vc_o, Nat.add_zero, kO_e, kA_e, hdO_a, eq_self, blk, stp, lg, ls0, lk, ls1, ls2, kI_i, kL_l, kR_r, kR_n, kR_o, s1I_i, s2I_i, s1L_l, s2L_l, s1R_r, s1R_n, s1R_o, s1A_a, cmpc, popn, swt, rf_s, rf_n, cat_i, cat_r, cat_n, cat_l, true_and, and_true, List.length_cons, List.length_nil, Nat.zero_add, Int.reduceToNat, Nat.reduceAdd, Nat.reduceDiv, Nat.reduceMod, Nat.reduceMul, Nat.reduceSub, Nat.reduceLeDiff, Nat.reduceLT, Nat.reduceEqDiff, ↓reduceIte, r_gr_wi, r_gl_wi, r_gk_wi, r_gn_wi, r_wi_eq, r_wi_ne, r_wi_nj, r_gi_wr, r_gl_wr, r_gk_wr, r_gn_wr, r_gr_wa, r_gl_wa, r_gk_wa, r_gn_wa, aa_e, as_e, al_e, u_lt, u_le, u_gt, u_ge, u_lt0, u_le0, u_gt0, u_ge0, Classical.not_not, not_true_eq_false, not_false_eq_true, oi_n, oi_m, n_dec, nI_add, pk_mul, n_sub, n_eq, n_le, n_lt, n_eq0, n_lt0, n_le0, n_0lt, n_0le, n_eqm, m_eqn, n_ltm, n_and, n_or, n_xor, n_shl, n_shr, tb1, tb0, bP_1, bP_0, bP_n0, ix_n, inb_n, u_eq, u_eqm, (ta_k L hT).1, (ta_k L hT).2.1, (ta_k L hT).2.2.1, (ta_k L hT).2.2.2.1, (ta_k L hT).2.2.2.2.1, (ta_k L hT).2.2.2.2.2.1, (ta_k L hT).2.2.2.2.2.2.1, (ta_k L hT).2.2.2.2.2.2.2, (ta_r L hT).1, (ta_r L hT).2.1, (ta_r L hT).2.2.1, (ta_r L hT).2.2.2.1, (ta_r L hT).2.2.2.2.1, (ta_r L hT).2.2.2.2.2.1, (ta_r L hT).2.2.2.2.2.2.1, (ta_r L hT).2.2.2.2.2.2.2.1, (ta_r L hT).2.2.2.2.2.2.2.2.1, (ta_r L hT).2.2.2.2.2.2.2.2.2, k21 L, k42 L, k33 L, k32 L, f21_0 L, f21_1 L, f21_2 L, f21_3 L, (F.at n43 12).trans S.1.1]
  refine ⟨_, _, _, c_Sc_tellR (c := 116) L T1 (by omega) (by omega), ⟨by omega, by omega⟩, ?_⟩
  rintro r H2 ⟨rfl, F1, T1⟩
  have L := F1.lay L
  have F := F.trans F1
  simp (maxSteps := 1000000) (disch := omega) only [slk, List.map_cons, List.map_nil, List.sum_cons, List.sum_nil, vc_i, vc_r, vc_n, vc_l, vc_o, Nat.add_zero, kO_e, kA_e, hdO_a, eq_self, blk, stp, lg, ls0, lk, ls1, ls2, kI_i, kL_l, kR_r, kR_n, kR_o, s1I_i, s2I_i, s1L_l, s2L_l, s1R_r, s1R_n, s1R_o, s1A_a, cmpc, popn, swt, rf_s, rf_n, cat_i, cat_r, cat_n, cat_l, true_and, and_true, List.length_cons, List.length_nil, Nat.zero_add, Int.reduceToNat, Nat.reduceAdd, Nat.reduceDiv, Nat.reduceMod, Nat.reduceMul, Nat.reduceSub, Nat.reduceLeDiff, Nat.reduceLT, Nat.reduceEqDiff, ↓reduceIte, r_gr_wi, r_gl_wi, r_gk_wi, r_gn_wi, r_wi_eq, r_wi_ne, r_wi_nj, r_gi_wr, r_gl_wr, r_gk_wr, r_gn_wr, r_gr_wa, r_gl_wa, r_gk_wa, r_gn_wa, aa_e, as_e, al_e, u_lt, u_le, u_gt, u_ge, u_lt0, u_le0, u_gt0, u_ge0, Classical.not_not, not_true_eq_false, not_false_eq_true, oi_n, oi_m, n_dec, nI_add, pk_mul, n_sub, n_eq, n_le, n_lt, n_eq0, n_lt0, n_le0, n_0lt, n_0le, n_eqm, m_eqn, n_ltm, n_and, n_or, n_xor, n_shl, n_shr, tb1, tb0, bP_1, bP_0, bP_n0, ix_n, inb_n, u_eq, u_eqm, (ta_k L hT).1, (ta_k L hT).2.1, (ta_k L hT).2.2.1, (ta_k L hT).2.2.2.1, (ta_k L hT).2.2.2.2.1, (ta_k L hT).2.2.2.2.2.1, (ta_k L hT).2.2.2.2.2.2.1, (ta_k L hT).2.2.2.2.2.2.2, (ta_r L hT).1, (ta_r L hT).2.1, (ta_r L hT).2.2.1, (ta_r L hT).2.2.2.1, (ta_r L hT).2.2.2.2.1, (ta_r L hT).2.2.2.2.2.1, (ta_r L hT).2.2.2.2.2.2.1, (ta_r L hT).2.2.2.2.2.2.2.1, (ta_r L hT).2.2.2.2.2.2.2.2.1, (ta_r L hT).2.2.2.2.2.2.2.2.2, k21 L, k42 L, k33 L, k32 L, f21_0 L, f21_1 L, f21_2 L, f21_3 L, (F.at n21 5).trans E.2.1.1.2.1]
  refine ⟨_, _, _, c_Sc_tellR (c := 109) L T1 (by omega) (by omega), ⟨by omega, by omega⟩, ?_⟩
  rintro r H3 ⟨rfl, F1, T1⟩
  have L := F1.lay L
  have F := F.trans F1
  have E6 := F.ev43 E
  have h36 : gr H3 T 3 = some b := by rw [F.gr]; exact h3
  have mk := ma_k E6.2.2.1
  simp (maxSteps := 1000000) (disch := omega) only [slk, List.map_cons, List.map_nil, List.sum_cons, List.sum_nil, vc_i, vc_r, vc_n, vc_l, vc_o, Nat.add_zero, kO_e, kA_e, hdO_a, eq_self, blk, stp, lg, ls0, lk, ls1, ls2, kI_i, kL_l, kR_r, kR_n, kR_o, s1I_i, s2I_i, s1L_l, s2L_l, s1R_r, s1R_n, s1R_o, s1A_a, cmpc, popn, swt, rf_s, rf_n, cat_i, cat_r, cat_n, cat_l, true_and, and_true, List.length_cons, List.length_nil, Nat.zero_add, Int.reduceToNat, Nat.reduceAdd, Nat.reduceDiv, Nat.reduceMod, Nat.reduceMul, Nat.reduceSub, Nat.reduceLeDiff, Nat.reduceLT, Nat.reduceEqDiff, ↓reduceIte, r_gr_wi, r_gl_wi, r_gk_wi, r_gn_wi, r_wi_eq, r_wi_ne, r_wi_nj, r_gi_wr, r_gl_wr, r_gk_wr, r_gn_wr, r_gr_wa, r_gl_wa, r_gk_wa, r_gn_wa, aa_e, as_e, al_e, u_lt, u_le, u_gt, u_ge, u_lt0, u_le0, u_gt0, u_ge0, Classical.not_not, not_true_eq_false, not_false_eq_true, oi_n, oi_m, n_dec, nI_add, pk_mul, n_sub, n_eq, n_le, n_lt, n_eq0, n_lt0, n_le0, n_0lt, n_0le, n_eqm, m_eqn, n_ltm, n_and, n_or, n_xor, n_shl, n_shr, tb1, tb0, bP_1, bP_0, bP_n0, ix_n, inb_n, u_eq, u_eqm, (ta_k L hT).1, (ta_k L hT).2.1, (ta_k L hT).2.2.1, (ta_k L hT).2.2.2.1, (ta_k L hT).2.2.2.2.1, (ta_k L hT).2.2.2.2.2.1, (ta_k L hT).2.2.2.2.2.2.1, (ta_k L hT).2.2.2.2.2.2.2, (ta_r L hT).1, (ta_r L hT).2.1, (ta_r L hT).2.2.1, (ta_r L hT).2.2.2.1, (ta_r L hT).2.2.2.2.1, (ta_r L hT).2.2.2.2.2.1, (ta_r L hT).2.2.2.2.2.2.1, (ta_r L hT).2.2.2.2.2.2.2.1, (ta_r L hT).2.2.2.2.2.2.2.2.1, (ta_r L hT).2.2.2.2.2.2.2.2.2, k21 L, k42 L, k33 L, k32 L, f21_0 L, f21_1 L, f21_2 L, f21_3 L, h36, mk]
  refine ⟨_, _, _, c_Sc_law (ps := [(109, nI (sn s)), (116, nI day)]) W E6 T1 hm (lb := 108) (by omega), ⟨by omega, by omega⟩, ?_⟩
  rintro r H7 ⟨rfl, F7⟩
  have FF : Fp XSc h2 H7 := (F.mono x43).trans (F7.mono x44)
  have L := F7.lay L
  have E7 := FF.ev E (fun a q => by unfold XSc at q; omega)
  have M := E7.2.2.1
  have V := E7.2.2.2.1
  have h37 : gr H7 T 3 = some b := by rw [FF.gr]; exact h3
  have g7 : gi H7 T 13 = nI g := (FF.at (fun q => by unfold XSc at q; omega) 13).trans S.1.2.1
  have hg1 := hg.1
  have sl := V.2.1 g hg.1
  have slb := sl_lt b4.2.1 (s 113 m) g
  have ub := unB_lt W m (slN (s 112 m) (s 113 m) g)
  have iab := un_ab W g0 hm hg
  have ul := and_lt (b := thoN s) ub
  have th := tho_lt W
  have no : ¬ slP s m g day → P 91 [some (.ref T)] [] H7 0 0 := by
    intro q
    refine hP.1 _ _ s_Ta_failsBySilence_91 _ _ _ _ _ ?_
    simp (maxSteps := 1000000) (disch := omega) only [g_Ta_failsBySilence_91, slk, List.map_cons, List.map_nil, List.sum_cons, List.sum_nil, vc_i, vc_r, vc_n, vc_l, vc_o, Nat.add_zero, kO_e, kA_e, hdO_a, eq_self, blk, stp, lg, ls0, lk, ls1, ls2, kI_i, kL_l, kR_r, kR_n, kR_o, s1I_i, s2I_i, s1L_l, s2L_l, s1R_r, s1R_n, s1R_o, s1A_a, cmpc, popn, swt, rf_s, rf_n, cat_i, cat_r, cat_n, cat_l, true_and, and_true, List.length_cons, List.length_nil, Nat.zero_add, Int.reduceToNat, Nat.reduceAdd, Nat.reduceDiv, Nat.reduceMod, Nat.reduceMul, Nat.reduceSub, Nat.reduceLeDiff, Nat.reduceLT, Nat.reduceEqDiff, ↓reduceIte, r_gr_wi, r_gl_wi, r_gk_wi, r_gn_wi, r_wi_eq, r_wi_ne, r_wi_nj, r_gi_wr, r_gl_wr, r_gk_wr, r_gn_wr, r_gr_wa, r_gl_wa, r_gk_wa, r_gn_wa, aa_e, as_e, al_e, u_lt, u_le, u_gt, u_ge, u_lt0, u_le0, u_gt0, u_ge0, Classical.not_not, not_true_eq_false, not_false_eq_true, oi_n, oi_m, n_dec, nI_add, pk_mul, n_sub, n_eq, n_le, n_lt, n_eq0, n_lt0, n_le0, n_0lt, n_0le, n_eqm, m_eqn, n_ltm, n_and, n_or, n_xor, n_shl, n_shr, tb1, tb0, bP_1, bP_0, bP_n0, ix_n, inb_n, u_eq, u_eqm, (ta_k L hT).1, (ta_k L hT).2.1, (ta_k L hT).2.2.1, (ta_k L hT).2.2.2.1, (ta_k L hT).2.2.2.2.1, (ta_k L hT).2.2.2.2.2.1, (ta_k L hT).2.2.2.2.2.2.1, (ta_k L hT).2.2.2.2.2.2.2, (ta_r L hT).1, (ta_r L hT).2.1, (ta_r L hT).2.2.1, (ta_r L hT).2.2.2.1, (ta_r L hT).2.2.2.2.1, (ta_r L hT).2.2.2.2.2.1, (ta_r L hT).2.2.2.2.2.2.1, (ta_r L hT).2.2.2.2.2.2.2.1, (ta_r L hT).2.2.2.2.2.2.2.2.1, (ta_r L hT).2.2.2.2.2.2.2.2.2, k21 L, k42 L, k33 L, k32 L, f21_0 L, f21_1 L, f21_2 L, f21_3 L, h36, mk]
    refine hP.1 _ _ s_Ta_failsBySilence_92 _ _ _ _ _ ?_
    simp (maxSteps := 1000000) (disch := omega) only [g_Ta_failsBySilence_92, slk, List.map_cons, List.map_nil, List.sum_cons, List.sum_nil, vc_i, vc_r, vc_n, vc_l, vc_o, Nat.add_zero, kO_e, kA_e, hdO_a, eq_self, blk, stp, lg, ls0, lk, ls1, ls2, kI_i, kL_l, kR_r, kR_n, kR_o, s1I_i, s2I_i, s1L_l, s2L_l, s1R_r, s1R_n, s1R_o, s1A_a, cmpc, popn, swt, rf_s, rf_n, cat_i, cat_r, cat_n, cat_l, true_and, and_true, List.length_cons, List.length_nil, Nat.zero_add, Int.reduceToNat, Nat.reduceAdd, Nat.reduceDiv, Nat.reduceMod, Nat.reduceMul, Nat.reduceSub, Nat.reduceLeDiff, Nat.reduceLT, Nat.reduceEqDiff, ↓reduceIte, r_gr_wi, r_gl_wi, r_gk_wi, r_gn_wi, r_wi_eq, r_wi_ne, r_wi_nj, r_gi_wr, r_gl_wr, r_gk_wr, r_gn_wr, r_gr_wa, r_gl_wa, r_gk_wa, r_gn_wa, aa_e, as_e, al_e, u_lt, u_le, u_gt, u_ge, u_lt0, u_le0, u_gt0, u_ge0, Classical.not_not, not_true_eq_false, not_false_eq_true, oi_n, oi_m, n_dec, nI_add, pk_mul, n_sub, n_eq, n_le, n_lt, n_eq0, n_lt0, n_le0, n_0lt, n_0le, n_eqm, m_eqn, n_ltm, n_and, n_or, n_xor, n_shl, n_shr, tb1, tb0, bP_1, bP_0, bP_n0, ix_n, inb_n, u_eq, u_eqm, (ta_k L hT).1, (ta_k L hT).2.1, (ta_k L hT).2.2.1, (ta_k L hT).2.2.2.1, (ta_k L hT).2.2.2.2.1, (ta_k L hT).2.2.2.2.2.1, (ta_k L hT).2.2.2.2.2.2.1, (ta_k L hT).2.2.2.2.2.2.2, (ta_r L hT).1, (ta_r L hT).2.1, (ta_r L hT).2.2.1, (ta_r L hT).2.2.2.1, (ta_r L hT).2.2.2.2.1, (ta_r L hT).2.2.2.2.2.1, (ta_r L hT).2.2.2.2.2.2.1, (ta_r L hT).2.2.2.2.2.2.2.1, (ta_r L hT).2.2.2.2.2.2.2.2.1, (ta_r L hT).2.2.2.2.2.2.2.2.2, k21 L, k42 L, k33 L, k32 L, f21_0 L, f21_1 L, f21_2 L, f21_3 L, h36, mk]
    rw [r_Ta_failsBySilence]
    exact ⟨Or.inl rfl, by rw [bP_f q], FF⟩
  simp (maxSteps := 1000000) (disch := omega) only [slk, List.map_cons, List.map_nil, List.sum_cons, List.sum_nil, vc_i, vc_r, vc_n, vc_l, vc_o, Nat.add_zero, kO_e, kA_e, hdO_a, eq_self, blk, stp, lg, ls0, lk, ls1, ls2, kI_i, kL_l, kR_r, kR_n, kR_o, s1I_i, s2I_i, s1L_l, s2L_l, s1R_r, s1R_n, s1R_o, s1A_a, cmpc, popn, swt, rf_s, rf_n, cat_i, cat_r, cat_n, cat_l, true_and, and_true, List.length_cons, List.length_nil, Nat.zero_add, Int.reduceToNat, Nat.reduceAdd, Nat.reduceDiv, Nat.reduceMod, Nat.reduceMul, Nat.reduceSub, Nat.reduceLeDiff, Nat.reduceLT, Nat.reduceEqDiff, ↓reduceIte, r_gr_wi, r_gl_wi, r_gk_wi, r_gn_wi, r_wi_eq, r_wi_ne, r_wi_nj, r_gi_wr, r_gl_wr, r_gk_wr, r_gn_wr, r_gr_wa, r_gl_wa, r_gk_wa, r_gn_wa, aa_e, as_e, al_e, u_lt, u_le, u_gt, u_ge, u_lt0, u_le0, u_gt0, u_ge0, Classical.not_not, not_true_eq_false, not_false_eq_true, oi_n, oi_m, n_dec, nI_add, pk_mul, n_sub, n_eq, n_le, n_lt, n_eq0, n_lt0, n_le0, n_0lt, n_0le, n_eqm, m_eqn, n_ltm, n_and, n_or, n_xor, n_shl, n_shr, tb1, tb0, bP_1, bP_0, bP_n0, ix_n, inb_n, u_eq, u_eqm, wgL_00]
  refine ⟨fun q => no (fun z => q z.1), fun q => ?_⟩
  refine hP.1 _ _ s_Ta_failsBySilence_57 _ _ _ _ _ ?_
  simp (maxSteps := 1000000) (disch := omega) only [g_Ta_failsBySilence_57, slk, List.map_cons, List.map_nil, List.sum_cons, List.sum_nil, vc_i, vc_r, vc_n, vc_l, vc_o, Nat.add_zero, kO_e, kA_e, hdO_a, eq_self, blk, stp, lg, ls0, lk, ls1, ls2, kI_i, kL_l, kR_r, kR_n, kR_o, s1I_i, s2I_i, s1L_l, s2L_l, s1R_r, s1R_n, s1R_o, s1A_a, cmpc, popn, swt, rf_s, rf_n, cat_i, cat_r, cat_n, cat_l, true_and, and_true, List.length_cons, List.length_nil, Nat.zero_add, Int.reduceToNat, Nat.reduceAdd, Nat.reduceDiv, Nat.reduceMod, Nat.reduceMul, Nat.reduceSub, Nat.reduceLeDiff, Nat.reduceLT, Nat.reduceEqDiff, ↓reduceIte, r_gr_wi, r_gl_wi, r_gk_wi, r_gn_wi, r_wi_eq, r_wi_ne, r_wi_nj, r_gi_wr, r_gl_wr, r_gk_wr, r_gn_wr, r_gr_wa, r_gl_wa, r_gk_wa, r_gn_wa, aa_e, as_e, al_e, u_lt, u_le, u_gt, u_ge, u_lt0, u_le0, u_gt0, u_ge0, Classical.not_not, not_true_eq_false, not_false_eq_true, oi_n, oi_m, n_dec, nI_add, pk_mul, n_sub, n_eq, n_le, n_lt, n_eq0, n_lt0, n_le0, n_0lt, n_0le, n_eqm, m_eqn, n_ltm, n_and, n_or, n_xor, n_shl, n_shr, tb1, tb0, bP_1, bP_0, bP_n0, ix_n, inb_n, u_eq, u_eqm, (ta_k L hT).1, (ta_k L hT).2.1, (ta_k L hT).2.2.1, (ta_k L hT).2.2.2.1, (ta_k L hT).2.2.2.2.1, (ta_k L hT).2.2.2.2.2.1, (ta_k L hT).2.2.2.2.2.2.1, (ta_k L hT).2.2.2.2.2.2.2, (ta_r L hT).1, (ta_r L hT).2.1, (ta_r L hT).2.2.1, (ta_r L hT).2.2.2.1, (ta_r L hT).2.2.2.2.1, (ta_r L hT).2.2.2.2.2.1, (ta_r L hT).2.2.2.2.2.2.1, (ta_r L hT).2.2.2.2.2.2.2.1, (ta_r L hT).2.2.2.2.2.2.2.2.1, (ta_r L hT).2.2.2.2.2.2.2.2.2, k21 L, k42 L, k33 L, k32 L, f21_0 L, f21_1 L, f21_2 L, f21_3 L, h37, ma_k M, ma_k14 M, ma_r2 M, g7, sl, E7.2.1.1.2.2]
  refine wc (c_Ma_unable W M V slb) ⟨by omega, by omega⟩ ?_
  simp (maxSteps := 1000000) (disch := omega) only [slk, List.map_cons, List.map_nil, List.sum_cons, List.sum_nil, vc_i, vc_r, vc_n, vc_l, vc_o, Nat.add_zero, kO_e, kA_e, hdO_a, eq_self, blk, stp, lg, ls0, lk, ls1, ls2, kI_i, kL_l, kR_r, kR_n, kR_o, s1I_i, s2I_i, s1L_l, s2L_l, s1R_r, s1R_n, s1R_o, s1A_a, cmpc, popn, swt, rf_s, rf_n, cat_i, cat_r, cat_n, cat_l, true_and, and_true, List.length_cons, List.length_nil, Nat.zero_add, Int.reduceToNat, Nat.reduceAdd, Nat.reduceDiv, Nat.reduceMod, Nat.reduceMul, Nat.reduceSub, Nat.reduceLeDiff, Nat.reduceLT, Nat.reduceEqDiff, ↓reduceIte, r_gr_wi, r_gl_wi, r_gk_wi, r_gn_wi, r_wi_eq, r_wi_ne, r_wi_nj, r_gi_wr, r_gl_wr, r_gk_wr, r_gn_wr, r_gr_wa, r_gl_wa, r_gk_wa, r_gn_wa, aa_e, as_e, al_e, u_lt, u_le, u_gt, u_ge, u_lt0, u_le0, u_gt0, u_ge0, Classical.not_not, not_true_eq_false, not_false_eq_true, oi_n, oi_m, n_dec, nI_add, pk_mul, n_sub, n_eq, n_le, n_lt, n_eq0, n_lt0, n_le0, n_0lt, n_0le, n_eqm, m_eqn, n_ltm, n_and, n_or, n_xor, n_shl, n_shr, tb1, tb0, bP_1, bP_0, bP_n0, ix_n, inb_n, u_eq, u_eqm, (ta_k L hT).1, (ta_k L hT).2.1, (ta_k L hT).2.2.1, (ta_k L hT).2.2.2.1, (ta_k L hT).2.2.2.2.1, (ta_k L hT).2.2.2.2.2.1, (ta_k L hT).2.2.2.2.2.2.1, (ta_k L hT).2.2.2.2.2.2.2, (ta_r L hT).1, (ta_r L hT).2.1, (ta_r L hT).2.2.1, (ta_r L hT).2.2.2.1, (ta_r L hT).2.2.2.2.1, (ta_r L hT).2.2.2.2.2.1, (ta_r L hT).2.2.2.2.2.2.1, (ta_r L hT).2.2.2.2.2.2.2.1, (ta_r L hT).2.2.2.2.2.2.2.2.1, (ta_r L hT).2.2.2.2.2.2.2.2.2, k21 L, k42 L, k33 L, k32 L, f21_0 L, f21_1 L, f21_2 L, f21_3 L, h37, ma_k M, ma_k14 M, ma_r2 M, g7, sl, E7.2.1.1.2.2]
  refine ⟨fun q2 => no (fun z => z.2 (iab.mp q2)), fun q2 => ?_⟩
  refine hP.1 _ _ s_Ta_failsBySilence_87 _ _ _ _ _ ?_
  simp (maxSteps := 1000000) (disch := omega) only [g_Ta_failsBySilence_87, slk, List.map_cons, List.map_nil, List.sum_cons, List.sum_nil, vc_i, vc_r, vc_n, vc_l, vc_o, Nat.add_zero, kO_e, kA_e, hdO_a, eq_self, blk, stp, lg, ls0, lk, ls1, ls2, kI_i, kL_l, kR_r, kR_n, kR_o, s1I_i, s2I_i, s1L_l, s2L_l, s1R_r, s1R_n, s1R_o, s1A_a, cmpc, popn, swt, rf_s, rf_n, cat_i, cat_r, cat_n, cat_l, true_and, and_true, List.length_cons, List.length_nil, Nat.zero_add, Int.reduceToNat, Nat.reduceAdd, Nat.reduceDiv, Nat.reduceMod, Nat.reduceMul, Nat.reduceSub, Nat.reduceLeDiff, Nat.reduceLT, Nat.reduceEqDiff, ↓reduceIte, r_gr_wi, r_gl_wi, r_gk_wi, r_gn_wi, r_wi_eq, r_wi_ne, r_wi_nj, r_gi_wr, r_gl_wr, r_gk_wr, r_gn_wr, r_gr_wa, r_gl_wa, r_gk_wa, r_gn_wa, aa_e, as_e, al_e, u_lt, u_le, u_gt, u_ge, u_lt0, u_le0, u_gt0, u_ge0, Classical.not_not, not_true_eq_false, not_false_eq_true, oi_n, oi_m, n_dec, nI_add, pk_mul, n_sub, n_eq, n_le, n_lt, n_eq0, n_lt0, n_le0, n_0lt, n_0le, n_eqm, m_eqn, n_ltm, n_and, n_or, n_xor, n_shl, n_shr, tb1, tb0, bP_1, bP_0, bP_n0, ix_n, inb_n, u_eq, u_eqm, (ta_k L hT).1, (ta_k L hT).2.1, (ta_k L hT).2.2.1, (ta_k L hT).2.2.2.1, (ta_k L hT).2.2.2.2.1, (ta_k L hT).2.2.2.2.2.1, (ta_k L hT).2.2.2.2.2.2.1, (ta_k L hT).2.2.2.2.2.2.2, (ta_r L hT).1, (ta_r L hT).2.1, (ta_r L hT).2.2.1, (ta_r L hT).2.2.2.1, (ta_r L hT).2.2.2.2.1, (ta_r L hT).2.2.2.2.2.1, (ta_r L hT).2.2.2.2.2.2.1, (ta_r L hT).2.2.2.2.2.2.2.1, (ta_r L hT).2.2.2.2.2.2.2.2.1, (ta_r L hT).2.2.2.2.2.2.2.2.2, k21 L, k42 L, k33 L, k32 L, f21_0 L, f21_1 L, f21_2 L, f21_3 L, h37, ma_k M, ma_k14 M, ma_r2 M, g7, sl, E7.2.1.1.2.2]
  refine hP.1 _ _ s_Ta_failsBySilence_92 _ _ _ _ _ ?_
  simp (maxSteps := 1000000) (disch := omega) only [g_Ta_failsBySilence_92, slk, List.map_cons, List.map_nil, List.sum_cons, List.sum_nil, vc_i, vc_r, vc_n, vc_l, vc_o, Nat.add_zero, kO_e, kA_e, hdO_a, eq_self, blk, stp, lg, ls0, lk, ls1, ls2, kI_i, kL_l, kR_r, kR_n, kR_o, s1I_i, s2I_i, s1L_l, s2L_l, s1R_r, s1R_n, s1R_o, s1A_a, cmpc, popn, swt, rf_s, rf_n, cat_i, cat_r, cat_n, cat_l, true_and, and_true, List.length_cons, List.length_nil, Nat.zero_add, Int.reduceToNat, Nat.reduceAdd, Nat.reduceDiv, Nat.reduceMod, Nat.reduceMul, Nat.reduceSub, Nat.reduceLeDiff, Nat.reduceLT, Nat.reduceEqDiff, ↓reduceIte, r_gr_wi, r_gl_wi, r_gk_wi, r_gn_wi, r_wi_eq, r_wi_ne, r_wi_nj, r_gi_wr, r_gl_wr, r_gk_wr, r_gn_wr, r_gr_wa, r_gl_wa, r_gk_wa, r_gn_wa, aa_e, as_e, al_e, u_lt, u_le, u_gt, u_ge, u_lt0, u_le0, u_gt0, u_ge0, Classical.not_not, not_true_eq_false, not_false_eq_true, oi_n, oi_m, n_dec, nI_add, pk_mul, n_sub, n_eq, n_le, n_lt, n_eq0, n_lt0, n_le0, n_0lt, n_0le, n_eqm, m_eqn, n_ltm, n_and, n_or, n_xor, n_shl, n_shr, tb1, tb0, bP_1, bP_0, bP_n0, ix_n, inb_n, u_eq, u_eqm, (ta_k L hT).1, (ta_k L hT).2.1, (ta_k L hT).2.2.1, (ta_k L hT).2.2.2.1, (ta_k L hT).2.2.2.2.1, (ta_k L hT).2.2.2.2.2.1, (ta_k L hT).2.2.2.2.2.2.1, (ta_k L hT).2.2.2.2.2.2.2, (ta_r L hT).1, (ta_r L hT).2.1, (ta_r L hT).2.2.1, (ta_r L hT).2.2.2.1, (ta_r L hT).2.2.2.2.1, (ta_r L hT).2.2.2.2.2.1, (ta_r L hT).2.2.2.2.2.2.1, (ta_r L hT).2.2.2.2.2.2.2.1, (ta_r L hT).2.2.2.2.2.2.2.2.1, (ta_r L hT).2.2.2.2.2.2.2.2.2, k21 L, k42 L, k33 L, k32 L, f21_0 L, f21_1 L, f21_2 L, f21_3 L, h37, ma_k M, ma_k14 M, ma_r2 M, g7, sl, E7.2.1.1.2.2]
  rw [r_Ta_failsBySilence]
  exact ⟨Or.inr rfl, by rw [bP_t (show slP s m g day from ⟨q, fun z => q2 (iab.mpr z)⟩)], FF⟩
theorem c_Ta_heedFor (W : RH h s) {h2 : AH} (L : Lay h2) (C : CC h2 s) {T : Nat} (hT : isT T) {A e i : Nat} {f : Nat → Nat} (hA : gk h2 A = some (.inr (0, 8))) (hf : ∀ o, o < 8 → gi h2 A o = nI (f o) ∧ f o < 2 ^ 20) (he : e < 8) (hi : i < 20) : Mz (d + 1) 223 [.ref T, .int (nI e), .ref A, .int (nI i)] h2 0 0 (Rt (nI (hdN s f e i 8)) h2) := by
  have tb := ta_b hT
  have f2 := f23 L he
  refine mz_in (l := [some (.ref T), some (.int (nI e)), some (.ref A), some (.int (nI i)), none, none]) mk_Ta_heedFor n_Ta_heedFor rfl l_Ta_heedFor rfl (Nat.le_of_ble_eq_true rfl) fun P hP => ?_
  have loop : ∀ n k, k + n = 8 → P 6 [some (.ref T), some (.int (nI e)), some (.ref A), some (.int (nI i)), some (.int (nI (hdN s f e i k))), some (.int (nI k))] [] h2 0 0 := by
    intro n
    induction n using Nat.strongRecOn with
    | _ n ih =>
      intro k hk
      refine hP.1 _ _ s_Ta_heedFor_6 _ _ _ _ _ ?_
      simp (maxSteps := 1000000) (disch := omega) only [g_Ta_heedFor_6, slk, List.map_cons, List.map_nil, List.sum_cons, List.sum_nil, vc_i, vc_r, vc_n, vc_l, vc_o, Nat.add_zero, kO_e, kA_e, hdO_a, eq_self, blk, stp, lg, ls0, lk, ls1, ls2, kI_i, kL_l, kR_r, kR_n, kR_o, s1I_i, s2I_i, s1L_l, s2L_l, s1R_r, s1R_n, s1R_o, s1A_a, cmpc, popn, swt, rf_s, rf_n, cat_i, cat_r, cat_n, cat_l, true_and, and_true, List.length_cons, List.length_nil, Nat.zero_add, Int.reduceToNat, Nat.reduceAdd, Nat.reduceDiv, Nat.reduceMod, Nat.reduceMul, Nat.reduceSub, Nat.reduceLeDiff, Nat.reduceLT, Nat.reduceEqDiff, ↓reduceIte, r_gr_wi, r_gl_wi, r_gk_wi, r_gn_wi, r_wi_eq, r_wi_ne, r_wi_nj, r_gi_wr, r_gl_wr, r_gk_wr, r_gn_wr, r_gr_wa, r_gl_wa, r_gk_wa, r_gn_wa, aa_e, as_e, al_e, u_lt, u_le, u_gt, u_ge, u_lt0, u_le0, u_gt0, u_ge0, Classical.not_not, not_true_eq_false, not_false_eq_true, oi_n, oi_m, n_dec, nI_add, pk_mul, n_sub, n_eq, n_le, n_lt, n_eq0, n_lt0, n_le0, n_0lt, n_0le, n_eqm, m_eqn, n_ltm, n_and, n_or, n_xor, n_shl, n_shr, tb1, tb0, bP_1, bP_0, bP_n0, ix_n, inb_n, u_eq, u_eqm]
      refine ⟨fun hc => ?_, fun hc => ?_⟩
      · have e1 : k = 8 := by omega
        subst e1
        refine hP.1 _ _ s_Ta_heedFor_47 _ _ _ _ _ ?_
        simp (maxSteps := 1000000) (disch := omega) only [g_Ta_heedFor_47, slk, List.map_cons, List.map_nil, List.sum_cons, List.sum_nil, vc_i, vc_r, vc_n, vc_l, vc_o, Nat.add_zero, kO_e, kA_e, hdO_a, eq_self, blk, stp, lg, ls0, lk, ls1, ls2, kI_i, kL_l, kR_r, kR_n, kR_o, s1I_i, s2I_i, s1L_l, s2L_l, s1R_r, s1R_n, s1R_o, s1A_a, cmpc, popn, swt, rf_s, rf_n, cat_i, cat_r, cat_n, cat_l, true_and, and_true, List.length_cons, List.length_nil, Nat.zero_add, Int.reduceToNat, Nat.reduceAdd, Nat.reduceDiv, Nat.reduceMod, Nat.reduceMul, Nat.reduceSub, Nat.reduceLeDiff, Nat.reduceLT, Nat.reduceEqDiff, ↓reduceIte, r_gr_wi, r_gl_wi, r_gk_wi, r_gn_wi, r_wi_eq, r_wi_ne, r_wi_nj, r_gi_wr, r_gl_wr, r_gk_wr, r_gn_wr, r_gr_wa, r_gl_wa, r_gk_wa, r_gn_wa, aa_e, as_e, al_e, u_lt, u_le, u_gt, u_ge, u_lt0, u_le0, u_gt0, u_ge0, Classical.not_not, not_true_eq_false, not_false_eq_true, oi_n, oi_m, n_dec, nI_add, pk_mul, n_sub, n_eq, n_le, n_lt, n_eq0, n_lt0, n_le0, n_0lt, n_0le, n_eqm, m_eqn, n_ltm, n_and, n_or, n_xor, n_shl, n_shr, tb1, tb0, bP_1, bP_0, bP_n0, ix_n, inb_n, u_eq, u_eqm]
        exact lfI r_Ta_heedFor rfl rfl
      · have hk8 : k < 8 := by omega
        have fk := hf k hk8
        have hd := rs_hd W (8 * e + k)
        have nx : ∀ y, y = hdN s f e i (k + 1) → P 41 [some (.ref T), some (.int (nI e)), some (.ref A), some (.int (nI i)), some (.int (nI y)), some (.int (nI k))] [] h2 0 0 := by
          intro y ey
          refine hP.1 _ _ s_Ta_heedFor_41 _ _ _ _ _ ?_
          simp (maxSteps := 1000000) (disch := omega) only [g_Ta_heedFor_41, slk, List.map_cons, List.map_nil, List.sum_cons, List.sum_nil, vc_i, vc_r, vc_n, vc_l, vc_o, Nat.add_zero, kO_e, kA_e, hdO_a, eq_self, blk, stp, lg, ls0, lk, ls1, ls2, kI_i, kL_l, kR_r, kR_n, kR_o, s1I_i, s2I_i, s1L_l, s2L_l, s1R_r, s1R_n, s1R_o, s1A_a, cmpc, popn, swt, rf_s, rf_n, cat_i, cat_r, cat_n, cat_l, true_and, and_true, List.length_cons, List.length_nil, Nat.zero_add, Int.reduceToNat, Nat.reduceAdd, Nat.reduceDiv, Nat.reduceMod, Nat.reduceMul, Nat.reduceSub, Nat.reduceLeDiff, Nat.reduceLT, Nat.reduceEqDiff, ↓reduceIte, r_gr_wi, r_gl_wi, r_gk_wi, r_gn_wi, r_wi_eq, r_wi_ne, r_wi_nj, r_gi_wr, r_gl_wr, r_gk_wr, r_gn_wr, r_gr_wa, r_gl_wa, r_gk_wa, r_gn_wa, aa_e, as_e, al_e, u_lt, u_le, u_gt, u_ge, u_lt0, u_le0, u_gt0, u_ge0, Classical.not_not, not_true_eq_false, not_false_eq_true, oi_n, oi_m, n_dec, nI_add, pk_mul, n_sub, n_eq, n_le, n_lt, n_eq0, n_lt0, n_le0, n_0lt, n_0le, n_eqm, m_eqn, n_ltm, n_and, n_or, n_xor, n_shl, n_shr, tb1, tb0, bP_1, bP_0, bP_n0, ix_n, inb_n, u_eq, u_eqm]
          rw [ey]
          exact ih (n - 1) (by omega) (k + 1) (by omega)
        have e2 : hdN s f e i (k + 1) = hdN s f e i k + nif ((f k).testBit i = true) (s 109 (8 * e + k)) 0 := rfl
        refine hP.1 _ _ s_Ta_heedFor_13 _ _ _ _ _ ?_
        simp (maxSteps := 1000000) (disch := omega) only [g_Ta_heedFor_13, slk, List.map_cons, List.map_nil, List.sum_cons, List.sum_nil, vc_i, vc_r, vc_n, vc_l, vc_o, Nat.add_zero, kO_e, kA_e, hdO_a, eq_self, blk, stp, lg, ls0, lk, ls1, ls2, kI_i, kL_l, kR_r, kR_n, kR_o, s1I_i, s2I_i, s1L_l, s2L_l, s1R_r, s1R_n, s1R_o, s1A_a, cmpc, popn, swt, rf_s, rf_n, cat_i, cat_r, cat_n, cat_l, true_and, and_true, List.length_cons, List.length_nil, Nat.zero_add, Int.reduceToNat, Nat.reduceAdd, Nat.reduceDiv, Nat.reduceMod, Nat.reduceMul, Nat.reduceSub, Nat.reduceLeDiff, Nat.reduceLT, Nat.reduceEqDiff, ↓reduceIte, r_gr_wi, r_gl_wi, r_gk_wi, r_gn_wi, r_wi_eq, r_wi_ne, r_wi_nj, r_gi_wr, r_gl_wr, r_gk_wr, r_gn_wr, r_gr_wa, r_gl_wa, r_gk_wa, r_gn_wa, aa_e, as_e, al_e, u_lt, u_le, u_gt, u_ge, u_lt0, u_le0, u_gt0, u_ge0, Classical.not_not, not_true_eq_false, not_false_eq_true, oi_n, oi_m, n_dec, nI_add, pk_mul, n_sub, n_eq, n_le, n_lt, n_eq0, n_lt0, n_le0, n_0lt, n_0le, n_eqm, m_eqn, n_ltm, n_and, n_or, n_xor, n_shl, n_shr, tb1, tb0, bP_1, bP_0, bP_n0, ix_n, inb_n, u_eq, u_eqm, (ta_k L hT).1, (ta_k L hT).2.1, (ta_k L hT).2.2.1, (ta_k L hT).2.2.2.1, (ta_k L hT).2.2.2.2.1, (ta_k L hT).2.2.2.2.2.1, (ta_k L hT).2.2.2.2.2.2.1, (ta_k L hT).2.2.2.2.2.2.2, (ta_r L hT).1, (ta_r L hT).2.1, (ta_r L hT).2.2.1, (ta_r L hT).2.2.2.1, (ta_r L hT).2.2.2.2.1, (ta_r L hT).2.2.2.2.2.1, (ta_r L hT).2.2.2.2.2.2.1, (ta_r L hT).2.2.2.2.2.2.2.1, (ta_r L hT).2.2.2.2.2.2.2.2.1, (ta_r L hT).2.2.2.2.2.2.2.2.2, k21 L, k42 L, k33 L, k32 L, f21_0 L, f21_1 L, f21_2 L, f21_3 L, hA, fk.1, k23 L, f2.1, f2.2, C.2.2.1 e k he hk8]
        refine ⟨fun q => nx _ (by rw [e2, nif_f (fun z => by rw [q] at z; cases z)]; rfl), fun q => ?_⟩
        refine hP.1 _ _ s_Ta_heedFor_24 _ _ _ _ _ ?_
        simp (maxSteps := 1000000) (disch := omega) only [g_Ta_heedFor_24, slk, List.map_cons, List.map_nil, List.sum_cons, List.sum_nil, vc_i, vc_r, vc_n, vc_l, vc_o, Nat.add_zero, kO_e, kA_e, hdO_a, eq_self, blk, stp, lg, ls0, lk, ls1, ls2, kI_i, kL_l, kR_r, kR_n, kR_o, s1I_i, s2I_i, s1L_l, s2L_l, s1R_r, s1R_n, s1R_o, s1A_a, cmpc, popn, swt, rf_s, rf_n, cat_i, cat_r, cat_n, cat_l, true_and, and_true, List.length_cons, List.length_nil, Nat.zero_add, Int.reduceToNat, Nat.reduceAdd, Nat.reduceDiv, Nat.reduceMod, Nat.reduceMul, Nat.reduceSub, Nat.reduceLeDiff, Nat.reduceLT, Nat.reduceEqDiff, ↓reduceIte, r_gr_wi, r_gl_wi, r_gk_wi, r_gn_wi, r_wi_eq, r_wi_ne, r_wi_nj, r_gi_wr, r_gl_wr, r_gk_wr, r_gn_wr, r_gr_wa, r_gl_wa, r_gk_wa, r_gn_wa, aa_e, as_e, al_e, u_lt, u_le, u_gt, u_ge, u_lt0, u_le0, u_gt0, u_ge0, Classical.not_not, not_true_eq_false, not_false_eq_true, oi_n, oi_m, n_dec, nI_add, pk_mul, n_sub, n_eq, n_le, n_lt, n_eq0, n_lt0, n_le0, n_0lt, n_0le, n_eqm, m_eqn, n_ltm, n_and, n_or, n_xor, n_shl, n_shr, tb1, tb0, bP_1, bP_0, bP_n0, ix_n, inb_n, u_eq, u_eqm, (ta_k L hT).1, (ta_k L hT).2.1, (ta_k L hT).2.2.1, (ta_k L hT).2.2.2.1, (ta_k L hT).2.2.2.2.1, (ta_k L hT).2.2.2.2.2.1, (ta_k L hT).2.2.2.2.2.2.1, (ta_k L hT).2.2.2.2.2.2.2, (ta_r L hT).1, (ta_r L hT).2.1, (ta_r L hT).2.2.1, (ta_r L hT).2.2.2.1, (ta_r L hT).2.2.2.2.1, (ta_r L hT).2.2.2.2.2.1, (ta_r L hT).2.2.2.2.2.2.1, (ta_r L hT).2.2.2.2.2.2.2.1, (ta_r L hT).2.2.2.2.2.2.2.2.1, (ta_r L hT).2.2.2.2.2.2.2.2.2, k21 L, k42 L, k33 L, k32 L, f21_0 L, f21_1 L, f21_2 L, f21_3 L, hA, fk.1, k23 L, f2.1, f2.2, C.2.2.1 e k he hk8]
        exact nx _ (by rw [e2, nif_t (by simpa using q)])
  refine hP.1 _ _ s_Ta_heedFor_0 _ _ _ _ _ ?_
  simp (maxSteps := 1000000) (disch := omega) only [g_Ta_heedFor_0, slk, List.map_cons, List.map_nil, List.sum_cons, List.sum_nil, vc_i, vc_r, vc_n, vc_l, vc_o, Nat.add_zero, kO_e, kA_e, hdO_a, eq_self, blk, stp, lg, ls0, lk, ls1, ls2, kI_i, kL_l, kR_r, kR_n, kR_o, s1I_i, s2I_i, s1L_l, s2L_l, s1R_r, s1R_n, s1R_o, s1A_a, cmpc, popn, swt, rf_s, rf_n, cat_i, cat_r, cat_n, cat_l, true_and, and_true, List.length_cons, List.length_nil, Nat.zero_add, Int.reduceToNat, Nat.reduceAdd, Nat.reduceDiv, Nat.reduceMod, Nat.reduceMul, Nat.reduceSub, Nat.reduceLeDiff, Nat.reduceLT, Nat.reduceEqDiff, ↓reduceIte, r_gr_wi, r_gl_wi, r_gk_wi, r_gn_wi, r_wi_eq, r_wi_ne, r_wi_nj, r_gi_wr, r_gl_wr, r_gk_wr, r_gn_wr, r_gr_wa, r_gl_wa, r_gk_wa, r_gn_wa, aa_e, as_e, al_e, u_lt, u_le, u_gt, u_ge, u_lt0, u_le0, u_gt0, u_ge0, Classical.not_not, not_true_eq_false, not_false_eq_true, oi_n, oi_m, n_dec, nI_add, pk_mul, n_sub, n_eq, n_le, n_lt, n_eq0, n_lt0, n_le0, n_0lt, n_0le, n_eqm, m_eqn, n_ltm, n_and, n_or, n_xor, n_shl, n_shr, tb1, tb0, bP_1, bP_0, bP_n0, ix_n, inb_n, u_eq, u_eqm]
  exact loop 8 0 rfl
end
