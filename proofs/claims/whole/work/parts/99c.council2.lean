/-! ===== the class's council: whom it fails by, what stays open, the fairest ===== -/
theorem oN_m1 {o : Option Nat} (h : ∀ q, o = some q → q < 2147483648) : (oN o = -1) = (o = none) := by
  cases o with
  | none => exact propext ⟨fun _ => rfl, fun _ => rfl⟩
  | some q =>
    show (nI q = -1) = _
    rw [n_eqm (h q rfl)]
    exact propext ⟨fun z => z.elim, fun z => by cases z⟩
/-- the least of those whom a proposal fails by -/
noncomputable def brG (s : St) (m : Nat) : Nat → Option Nat
  | 0 => none
  | k + 1 => @ite _ (isPr s m k ∧ ∀ q, brG s m k = some q → kyN (bdN s m k) < kyN q) (Classical.propDecidable _) (some (bdN s m k)) (brG s m k)
theorem brG_lt {h : AH} {s : St} (W : RH h s) {m : Nat} : ∀ k q, brG s m k = some q → q < 256 ∧ (∃ x, x < k ∧ isPr s m x ∧ bdN s m x = q) := by
  intro k
  induction k with
  | zero => intro q e; cases e
  | succ k ih =>
    intro q e
    by_cases c : isPr s m k ∧ ∀ q, brG s m k = some q → kyN (bdN s m k) < kyN q
    · have e1 : brG s m (k + 1) = some (bdN s m k) := if_pos c
      rw [e1] at e
      cases e
      exact ⟨bd_lt W m k, k, by omega, c.1, rfl⟩
    · have e1 : brG s m (k + 1) = brG s m k := if_neg c
      rw [e1] at e
      obtain ⟨a, x, b, c2⟩ := ih q e
      exact ⟨a, x, by omega, c2⟩
theorem brG_le {h : AH} {s : St} (W : RH h s) {m : Nat} : ∀ k x, x < k → isPr s m x → ∃ q, brG s m k = some q ∧ kyN q ≤ kyN (bdN s m x) := by
  intro k
  induction k with
  | zero => intro x z; exact absurd z (Nat.not_lt_zero _)
  | succ k ih =>
    intro x hx pr
    by_cases c : isPr s m k ∧ ∀ q, brG s m k = some q → kyN (bdN s m k) < kyN q
    · have e1 : brG s m (k + 1) = some (bdN s m k) := if_pos c
      refine ⟨_, e1, ?_⟩
      by_cases e : x = k
      · rw [e]
        exact Nat.le_refl _
      · obtain ⟨q, a, b⟩ := ih x (by omega) pr
        have := c.2 q a
        omega
    · have e1 : brG s m (k + 1) = brG s m k := if_neg c
      rw [e1]
      by_cases e : x = k
      · subst e
        obtain ⟨q, hq⟩ := Classical.not_forall.mp (fun z => c ⟨pr, z⟩)
        obtain ⟨q1, q2⟩ := Classical.not_imp.mp hq
        exact ⟨q, q1, by omega⟩
      · exact ih x (by omega) pr
theorem op_bd {h : AH} {s : St} (W : RH h s) (g0 : s 107 22 = 0) {m w x : Nat} (hm : m < s 107 19) (hx : isPr s m x) : opX s m w (evN s m) x ↔ adN (bdN s m x) w = 0 := by
  rw [adN_0]
  constructor
  · intro q e he
    rw [bd_bit W g0 hm hx] at he
    obtain ⟨j, hj, rfl⟩ := seat_ix W he.1
    exact (q j hj).resolve_right he.2
  · intro q j hj
    by_cases z : brP s (sd s j) m x (evN s m)
    · exact Or.inr z
    · exact Or.inl (q _ ((bd_bit W g0 hm hx _).mpr ⟨seat_of W hj, z⟩))
theorem ad_self (a : Nat) : adN a a = 0 := (adN_0 a a).mpr fun _ h => h
theorem and_sub {a b : Nat} (h : adN a b = 0) : a &&& b = a := by
  refine Nat.eq_of_testBit_eq fun i => ?_
  rw [Nat.testBit_and]
  cases q : a.testBit i with
  | false => rfl
  | true => rw [(adN_0 a b).mp h i q]; rfl
theorem bar_eq {h : AH} {s : St} (W : RH h s) (g0 : s 107 22 = 0) {m : Nat} (hm : m < s 107 19) : barR s m = if brG s m (1 <<< (2 * s 112 m)) = some 0 then -1 else oN (brG s m (1 <<< (2 * s 112 m))) := by
  have b1 := rs_e W
  have pr0 := isPr_0 W hm
  obtain ⟨q, hq, _⟩ := brG_le W _ 0 pr0.1 pr0
  obtain ⟨q8, x, hx, pr, ex⟩ := brG_lt W _ q hq
  have least : ∀ y, isPr s m y → kyN q ≤ kyN (bdN s m y) := fun y py => by
    obtain ⟨q2, a, b⟩ := brG_le W _ y py.1 py
    rw [hq] at a
    cases a
    exact b
  unfold barR
  rw [hq]
  by_cases z : q = 0
  · rw [z, if_pos rfl, if_pos]
    refine ⟨x, pr, (op_bd W g0 hm pr).mpr ?_⟩
    rw [ex, z]
    decide
  · have nop : ¬ opP s m 0 (evN s m) := by
      rintro ⟨y, py, oy⟩
      have ad := (op_bd W g0 hm py).mp oy
      have e0 : bdN s m y = 0 := by
        have := and_sub ad
        rw [Nat.and_zero] at this
        exact this.symm
      have l2 := least y py
      rw [e0] at l2
      have l3 := ky_0 q q8
      exact z (ky_inj q q8 0 (by decide) (by omega))
    rw [if_neg (show ¬ some q = some 0 from fun e => z (by cases e; rfl)), if_neg nop]
    congr 1
    have sb : ∀ e, q.testBit e = true → e < s 107 18 ∧ (thoN s).testBit e = true := fun e he => by
      rw [← ex, bd_bit W g0 hm pr] at he
      exact ⟨he.1.1, (tho_bit W e).mpr he.1⟩
    refine mnG_min (K := kyN) ⟨⟨by omega, (adN_0 _ _).mpr fun e he => (sb e he).2⟩, x, pr, (op_bd W g0 hm pr).mpr (by rw [ex]; exact ad_self q)⟩ ?_ ?_
    · rw [Nat.one_shiftLeft, lt_pow_bit]
      intro i hi
      cases y : q.testBit i with
      | false => rfl
      | true =>
        have := (sb i y).1
        omega
    · rintro a ha ⟨⟨a1, a2⟩, y, py, oy⟩ ne
      rw [Nat.one_shiftLeft] at ha
      have a8 : a < 256 := Nat.lt_of_lt_of_le ha (Nat.pow_le_pow_right (n := 2) (by omega) (by omega : s 107 18 ≤ 8))
      have ad := (op_bd W g0 hm py).mp oy
      have l1 := ky_sub _ (bd_lt W m y) _ a8 (and_sub ad)
      have l2 := least y py
      have l3 : kyN q ≠ kyN a := fun e => ne (ky_inj q q8 a a8 e).symm
      omega
section
variable {h : AH} {s : St} {d m b : Nat}
theorem c_Co_barring (W : RH h s) (g0 : s 107 22 = 0) {h2 : AH} (L : Lay h2) (C : CC h2 s) (hm : m < s 107 19) (M : MA h2 b (s 112 m)) (V : MV h2 s m b) : Mz (d + 3) 161 [.ref 59, .ref b] h2 0 0 (Rt (barR s m) h2) := by
  have b4 := rs_p W hm
  have b5 := sh_1024 b4.2.1
  have pr0 := isPr_0 W hm
  refine mz_in (l := [some (.ref 59), some (.ref b), none, none, none]) mk_Co_barring n_Co_barring rfl l_Co_barring rfl (Nat.le_of_ble_eq_true rfl) fun P hP => ?_
  have loop : ∀ n k (x4 : Option Value), k + n = 1 <<< (2 * s 112 m) → P 4 [some (.ref 59), some (.ref b), some (.int (oN (brG s m k))), some (.int (nI k)), x4] [] h2 0 0 := by
    intro n
    induction n using Nat.strongRecOn with
    | _ n ih =>
      intro k x4 hk
      have bl := fun q e => (brG_lt W (m := m) k q e).1
      refine hP.1 _ _ s_Co_barring_4 _ _ _ _ _ ?_
      simp (maxSteps := 1000000) (disch := omega) only [g_Co_barring_4, slk, List.map_cons, List.map_nil, List.sum_cons, List.sum_nil, vc_i, vc_r, vc_n, vc_l, vc_o, Nat.add_zero, kO_e, kA_e, hdO_a, eq_self, blk, stp, lg, ls0, lk, ls1, ls2, kI_i, kL_l, kR_r, kR_n, kR_o, s1I_i, s2I_i, s1L_l, s2L_l, s1R_r, s1R_n, s1R_o, s1A_a, cmpc, popn, swt, rf_s, rf_n, cat_i, cat_r, cat_n, cat_l, true_and, and_true, List.length_cons, List.length_nil, Nat.zero_add, Int.reduceToNat, Nat.reduceAdd, Nat.reduceDiv, Nat.reduceMod, Nat.reduceMul, Nat.reduceSub, Nat.reduceLeDiff, Nat.reduceLT, Nat.reduceEqDiff, ↓reduceIte, r_gr_wi, r_gl_wi, r_gk_wi, r_gn_wi, r_wi_eq, r_wi_ne, r_wi_nj, r_gi_wr, r_gl_wr, r_gk_wr, r_gn_wr, r_gr_wa, r_gl_wa, r_gk_wa, r_gn_wa, aa_e, as_e, al_e, u_lt, u_le, u_gt, u_ge, u_lt0, u_le0, u_gt0, u_ge0, Classical.not_not, not_true_eq_false, not_false_eq_true, oi_n, oi_m, n_dec, nI_add, pk_mul, n_sub, n_eq, n_le, n_lt, n_eq0, n_lt0, n_le0, n_0lt, n_0le, n_eqm, m_eqn, n_ltm, n_and, n_or, n_xor, n_shl, n_shr, tb1, tb0, bP_1, bP_0, bP_n0, ix_n, inb_n, u_eq, u_eqm, ma_k M, ma_k1 M, ma_k2 M, ma_k3 M, ma_k12 M, ma_k13 M, ma_k14 M, ma_r2 M, ma_r3 M, ma_r4 M, ma_r5 M, ma_r6 M, ma_r7 M]
      refine ⟨fun hc => ?_, fun hc => ?_⟩
      · have e1 : k = 1 <<< (2 * s 112 m) := by omega
        subst e1
        obtain ⟨q, hq, _⟩ := brG_le W (m := m) _ 0 pr0.1 pr0
        have q8 := bl q hq
        have be := bar_eq W g0 hm
        rw [hq] at be ⊢
        have e3 : oN (some q) = nI q := rfl
        rw [e3] at be ⊢
        refine hP.1 _ _ s_Co_barring_65 _ _ _ _ _ ?_
        simp (maxSteps := 1000000) (disch := omega) only [g_Co_barring_65, slk, List.map_cons, List.map_nil, List.sum_cons, List.sum_nil, vc_i, vc_r, vc_n, vc_l, vc_o, Nat.add_zero, kO_e, kA_e, hdO_a, eq_self, blk, stp, lg, ls0, lk, ls1, ls2, kI_i, kL_l, kR_r, kR_n, kR_o, s1I_i, s2I_i, s1L_l, s2L_l, s1R_r, s1R_n, s1R_o, s1A_a, cmpc, popn, swt, rf_s, rf_n, cat_i, cat_r, cat_n, cat_l, true_and, and_true, List.length_cons, List.length_nil, Nat.zero_add, Int.reduceToNat, Nat.reduceAdd, Nat.reduceDiv, Nat.reduceMod, Nat.reduceMul, Nat.reduceSub, Nat.reduceLeDiff, Nat.reduceLT, Nat.reduceEqDiff, ↓reduceIte, r_gr_wi, r_gl_wi, r_gk_wi, r_gn_wi, r_wi_eq, r_wi_ne, r_wi_nj, r_gi_wr, r_gl_wr, r_gk_wr, r_gn_wr, r_gr_wa, r_gl_wa, r_gk_wa, r_gn_wa, aa_e, as_e, al_e, u_lt, u_le, u_gt, u_ge, u_lt0, u_le0, u_gt0, u_ge0, Classical.not_not, not_true_eq_false, not_false_eq_true, oi_n, oi_m, n_dec, nI_add, pk_mul, n_sub, n_eq, n_le, n_lt, n_eq0, n_lt0, n_le0, n_0lt, n_0le, n_eqm, m_eqn, n_ltm, n_and, n_or, n_xor, n_shl, n_shr, tb1, tb0, bP_1, bP_0, bP_n0, ix_n, inb_n, u_eq, u_eqm, ma_k M, ma_k1 M, ma_k2 M, ma_k3 M, ma_k12 M, ma_k13 M, ma_k14 M, ma_r2 M, ma_r3 M, ma_r4 M, ma_r5 M, ma_r6 M, ma_r7 M]
        refine ⟨fun z => ?_, fun z => ?_⟩
        · refine hP.1 _ _ s_Co_barring_73 _ _ _ _ _ ?_
          simp (maxSteps := 1000000) (disch := omega) only [g_Co_barring_73, slk, List.map_cons, List.map_nil, List.sum_cons, List.sum_nil, vc_i, vc_r, vc_n, vc_l, vc_o, Nat.add_zero, kO_e, kA_e, hdO_a, eq_self, blk, stp, lg, ls0, lk, ls1, ls2, kI_i, kL_l, kR_r, kR_n, kR_o, s1I_i, s2I_i, s1L_l, s2L_l, s1R_r, s1R_n, s1R_o, s1A_a, cmpc, popn, swt, rf_s, rf_n, cat_i, cat_r, cat_n, cat_l, true_and, and_true, List.length_cons, List.length_nil, Nat.zero_add, Int.reduceToNat, Nat.reduceAdd, Nat.reduceDiv, Nat.reduceMod, Nat.reduceMul, Nat.reduceSub, Nat.reduceLeDiff, Nat.reduceLT, Nat.reduceEqDiff, ↓reduceIte, r_gr_wi, r_gl_wi, r_gk_wi, r_gn_wi, r_wi_eq, r_wi_ne, r_wi_nj, r_gi_wr, r_gl_wr, r_gk_wr, r_gn_wr, r_gr_wa, r_gl_wa, r_gk_wa, r_gn_wa, aa_e, as_e, al_e, u_lt, u_le, u_gt, u_ge, u_lt0, u_le0, u_gt0, u_ge0, Classical.not_not, not_true_eq_false, not_false_eq_true, oi_n, oi_m, n_dec, nI_add, pk_mul, n_sub, n_eq, n_le, n_lt, n_eq0, n_lt0, n_le0, n_0lt, n_0le, n_eqm, m_eqn, n_ltm, n_and, n_or, n_xor, n_shl, n_shr, tb1, tb0, bP_1, bP_0, bP_n0, ix_n, inb_n, u_eq, u_eqm, ma_k M, ma_k1 M, ma_k2 M, ma_k3 M, ma_k12 M, ma_k13 M, ma_k14 M, ma_r2 M, ma_r3 M, ma_r4 M, ma_r5 M, ma_r6 M, ma_r7 M]
          refine hP.1 _ _ s_Co_barring_74 _ _ _ _ _ ?_
          simp (maxSteps := 1000000) (disch := omega) only [g_Co_barring_74, slk, List.map_cons, List.map_nil, List.sum_cons, List.sum_nil, vc_i, vc_r, vc_n, vc_l, vc_o, Nat.add_zero, kO_e, kA_e, hdO_a, eq_self, blk, stp, lg, ls0, lk, ls1, ls2, kI_i, kL_l, kR_r, kR_n, kR_o, s1I_i, s2I_i, s1L_l, s2L_l, s1R_r, s1R_n, s1R_o, s1A_a, cmpc, popn, swt, rf_s, rf_n, cat_i, cat_r, cat_n, cat_l, true_and, and_true, List.length_cons, List.length_nil, Nat.zero_add, Int.reduceToNat, Nat.reduceAdd, Nat.reduceDiv, Nat.reduceMod, Nat.reduceMul, Nat.reduceSub, Nat.reduceLeDiff, Nat.reduceLT, Nat.reduceEqDiff, ↓reduceIte, r_gr_wi, r_gl_wi, r_gk_wi, r_gn_wi, r_wi_eq, r_wi_ne, r_wi_nj, r_gi_wr, r_gl_wr, r_gk_wr, r_gn_wr, r_gr_wa, r_gl_wa, r_gk_wa, r_gn_wa, aa_e, as_e, al_e, u_lt, u_le, u_gt, u_ge, u_lt0, u_le0, u_gt0, u_ge0, Classical.not_not, not_true_eq_false, not_false_eq_true, oi_n, oi_m, n_dec, nI_add, pk_mul, n_sub, n_eq, n_le, n_lt, n_eq0, n_lt0, n_le0, n_0lt, n_0le, n_eqm, m_eqn, n_ltm, n_and, n_or, n_xor, n_shl, n_shr, tb1, tb0, bP_1, bP_0, bP_n0, ix_n, inb_n, u_eq, u_eqm, ma_k M, ma_k1 M, ma_k2 M, ma_k3 M, ma_k12 M, ma_k13 M, ma_k14 M, ma_r2 M, ma_r3 M, ma_r4 M, ma_r5 M, ma_r6 M, ma_r7 M]
          exact lfI r_Co_barring (by rw [be, if_neg (fun e => z (by cases e; rfl))]) rfl
        · have z' : q = 0 := by
            first | exact z | exact Classical.byContradiction z
          refine hP.1 _ _ s_Co_barring_69 _ _ _ _ _ ?_
          simp (maxSteps := 1000000) (disch := omega) only [g_Co_barring_69, slk, List.map_cons, List.map_nil, List.sum_cons, List.sum_nil, vc_i, vc_r, vc_n, vc_l, vc_o, Nat.add_zero, kO_e, kA_e, hdO_a, eq_self, blk, stp, lg, ls0, lk, ls1, ls2, kI_i, kL_l, kR_r, kR_n, kR_o, s1I_i, s2I_i, s1L_l, s2L_l, s1R_r, s1R_n, s1R_o, s1A_a, cmpc, popn, swt, rf_s, rf_n, cat_i, cat_r, cat_n, cat_l, true_and, and_true, List.length_cons, List.length_nil, Nat.zero_add, Int.reduceToNat, Nat.reduceAdd, Nat.reduceDiv, Nat.reduceMod, Nat.reduceMul, Nat.reduceSub, Nat.reduceLeDiff, Nat.reduceLT, Nat.reduceEqDiff, ↓reduceIte, r_gr_wi, r_gl_wi, r_gk_wi, r_gn_wi, r_wi_eq, r_wi_ne, r_wi_nj, r_gi_wr, r_gl_wr, r_gk_wr, r_gn_wr, r_gr_wa, r_gl_wa, r_gk_wa, r_gn_wa, aa_e, as_e, al_e, u_lt, u_le, u_gt, u_ge, u_lt0, u_le0, u_gt0, u_ge0, Classical.not_not, not_true_eq_false, not_false_eq_true, oi_n, oi_m, n_dec, nI_add, pk_mul, n_sub, n_eq, n_le, n_lt, n_eq0, n_lt0, n_le0, n_0lt, n_0le, n_eqm, m_eqn, n_ltm, n_and, n_or, n_xor, n_shl, n_shr, tb1, tb0, bP_1, bP_0, bP_n0, ix_n, inb_n, u_eq, u_eqm, ma_k M, ma_k1 M, ma_k2 M, ma_k3 M, ma_k12 M, ma_k13 M, ma_k14 M, ma_r2 M, ma_r3 M, ma_r4 M, ma_r5 M, ma_r6 M, ma_r7 M]
          refine hP.1 _ _ s_Co_barring_74 _ _ _ _ _ ?_
          simp (maxSteps := 1000000) (disch := omega) only [g_Co_barring_74, slk, List.map_cons, List.map_nil, List.sum_cons, List.sum_nil, vc_i, vc_r, vc_n, vc_l, vc_o, Nat.add_zero, kO_e, kA_e, hdO_a, eq_self, blk, stp, lg, ls0, lk, ls1, ls2, kI_i, kL_l, kR_r, kR_n, kR_o, s1I_i, s2I_i, s1L_l, s2L_l, s1R_r, s1R_n, s1R_o, s1A_a, cmpc, popn, swt, rf_s, rf_n, cat_i, cat_r, cat_n, cat_l, true_and, and_true, List.length_cons, List.length_nil, Nat.zero_add, Int.reduceToNat, Nat.reduceAdd, Nat.reduceDiv, Nat.reduceMod, Nat.reduceMul, Nat.reduceSub, Nat.reduceLeDiff, Nat.reduceLT, Nat.reduceEqDiff, ↓reduceIte, r_gr_wi, r_gl_wi, r_gk_wi, r_gn_wi, r_wi_eq, r_wi_ne, r_wi_nj, r_gi_wr, r_gl_wr, r_gk_wr, r_gn_wr, r_gr_wa, r_gl_wa, r_gk_wa, r_gn_wa, aa_e, as_e, al_e, u_lt, u_le, u_gt, u_ge, u_lt0, u_le0, u_gt0, u_ge0, Classical.not_not, not_true_eq_false, not_false_eq_true, oi_n, oi_m, n_dec, nI_add, pk_mul, n_sub, n_eq, n_le, n_lt, n_eq0, n_lt0, n_le0, n_0lt, n_0le, n_eqm, m_eqn, n_ltm, n_and, n_or, n_xor, n_shl, n_shr, tb1, tb0, bP_1, bP_0, bP_n0, ix_n, inb_n, u_eq, u_eqm, ma_k M, ma_k1 M, ma_k2 M, ma_k3 M, ma_k12 M, ma_k13 M, ma_k14 M, ma_r2 M, ma_r3 M, ma_r4 M, ma_r5 M, ma_r6 M, ma_r7 M]
          exact lfI r_Co_barring (by rw [be, if_pos (by rw [z'])]) rfl
      · have hk2 : k < 1 <<< (2 * s 112 m) := by omega
        have sl := V.2.1 k hk2
        have slb := sl_lt b4.2.1 (s 113 m) k
        have ps := pr_sl (x := k) b4.1 hk2
        have ub := bd_lt W m k
        have nx : ∀ (v2 : Int32) x4, v2 = oN (brG s m (k + 1)) → P 59 [some (.ref 59), some (.ref b), some (.int (v2)), some (.int (nI k)), x4] [] h2 0 0 := by
          intro v2 x4 e2
          refine hP.1 _ _ s_Co_barring_59 _ _ _ _ _ ?_
          simp (maxSteps := 1000000) (disch := omega) only [g_Co_barring_59, slk, List.map_cons, List.map_nil, List.sum_cons, List.sum_nil, vc_i, vc_r, vc_n, vc_l, vc_o, Nat.add_zero, kO_e, kA_e, hdO_a, eq_self, blk, stp, lg, ls0, lk, ls1, ls2, kI_i, kL_l, kR_r, kR_n, kR_o, s1I_i, s2I_i, s1L_l, s2L_l, s1R_r, s1R_n, s1R_o, s1A_a, cmpc, popn, swt, rf_s, rf_n, cat_i, cat_r, cat_n, cat_l, true_and, and_true, List.length_cons, List.length_nil, Nat.zero_add, Int.reduceToNat, Nat.reduceAdd, Nat.reduceDiv, Nat.reduceMod, Nat.reduceMul, Nat.reduceSub, Nat.reduceLeDiff, Nat.reduceLT, Nat.reduceEqDiff, ↓reduceIte, r_gr_wi, r_gl_wi, r_gk_wi, r_gn_wi, r_wi_eq, r_wi_ne, r_wi_nj, r_gi_wr, r_gl_wr, r_gk_wr, r_gn_wr, r_gr_wa, r_gl_wa, r_gk_wa, r_gn_wa, aa_e, as_e, al_e, u_lt, u_le, u_gt, u_ge, u_lt0, u_le0, u_gt0, u_ge0, Classical.not_not, not_true_eq_false, not_false_eq_true, oi_n, oi_m, n_dec, nI_add, pk_mul, n_sub, n_eq, n_le, n_lt, n_eq0, n_lt0, n_le0, n_0lt, n_0le, n_eqm, m_eqn, n_ltm, n_and, n_or, n_xor, n_shl, n_shr, tb1, tb0, bP_1, bP_0, bP_n0, ix_n, inb_n, u_eq, u_eqm, ma_k M, ma_k1 M, ma_k2 M, ma_k3 M, ma_k12 M, ma_k13 M, ma_k14 M, ma_r2 M, ma_r3 M, ma_r4 M, ma_r5 M, ma_r6 M, ma_r7 M]
          rw [e2]
          exact ih (n - 1) (by omega) (k + 1) _ (by omega)
        have no : ¬ (isPr s m k ∧ ∀ q, brG s m k = some q → kyN (bdN s m k) < kyN q) → brG s m (k + 1) = brG s m k := fun z => if_neg z
        have ye : (isPr s m k ∧ ∀ q, brG s m k = some q → kyN (bdN s m k) < kyN q) → brG s m (k + 1) = some (bdN s m k) := fun z => if_pos z
        have e9 : unB s m (slN (s 112 m) (s 113 m) k) &&& thoN s = bdN s m k := rfl
        refine hP.1 _ _ s_Co_barring_13 _ _ _ _ _ ?_
        simp (maxSteps := 1000000) (disch := omega) only [g_Co_barring_13, slk, List.map_cons, List.map_nil, List.sum_cons, List.sum_nil, vc_i, vc_r, vc_n, vc_l, vc_o, Nat.add_zero, kO_e, kA_e, hdO_a, eq_self, blk, stp, lg, ls0, lk, ls1, ls2, kI_i, kL_l, kR_r, kR_n, kR_o, s1I_i, s2I_i, s1L_l, s2L_l, s1R_r, s1R_n, s1R_o, s1A_a, cmpc, popn, swt, rf_s, rf_n, cat_i, cat_r, cat_n, cat_l, true_and, and_true, List.length_cons, List.length_nil, Nat.zero_add, Int.reduceToNat, Nat.reduceAdd, Nat.reduceDiv, Nat.reduceMod, Nat.reduceMul, Nat.reduceSub, Nat.reduceLeDiff, Nat.reduceLT, Nat.reduceEqDiff, ↓reduceIte, r_gr_wi, r_gl_wi, r_gk_wi, r_gn_wi, r_wi_eq, r_wi_ne, r_wi_nj, r_gi_wr, r_gl_wr, r_gk_wr, r_gn_wr, r_gr_wa, r_gl_wa, r_gk_wa, r_gn_wa, aa_e, as_e, al_e, u_lt, u_le, u_gt, u_ge, u_lt0, u_le0, u_gt0, u_ge0, Classical.not_not, not_true_eq_false, not_false_eq_true, oi_n, oi_m, n_dec, nI_add, pk_mul, n_sub, n_eq, n_le, n_lt, n_eq0, n_lt0, n_le0, n_0lt, n_0le, n_eqm, m_eqn, n_ltm, n_and, n_or, n_xor, n_shl, n_shr, tb1, tb0, bP_1, bP_0, bP_n0, ix_n, inb_n, u_eq, u_eqm, ma_k M, ma_k1 M, ma_k2 M, ma_k3 M, ma_k12 M, ma_k13 M, ma_k14 M, ma_r2 M, ma_r3 M, ma_r4 M, ma_r5 M, ma_r6 M, ma_r7 M, sl]
        refine ⟨fun q => nx _ _ (by rw [no (fun z => ps.mp z.1 q)]), fun q => ?_⟩
        have pr := ps.mpr q
        have om := oN_m1 (o := brG s m k) (fun q e => by have := bl q e; omega)
        refine hP.1 _ _ s_Co_barring_22 _ _ _ _ _ ?_
        simp (maxSteps := 1000000) (disch := omega) only [g_Co_barring_22, slk, List.map_cons, List.map_nil, List.sum_cons, List.sum_nil, vc_i, vc_r, vc_n, vc_l, vc_o, Nat.add_zero, kO_e, kA_e, hdO_a, eq_self, blk, stp, lg, ls0, lk, ls1, ls2, kI_i, kL_l, kR_r, kR_n, kR_o, s1I_i, s2I_i, s1L_l, s2L_l, s1R_r, s1R_n, s1R_o, s1A_a, cmpc, popn, swt, rf_s, rf_n, cat_i, cat_r, cat_n, cat_l, true_and, and_true, List.length_cons, List.length_nil, Nat.zero_add, Int.reduceToNat, Nat.reduceAdd, Nat.reduceDiv, Nat.reduceMod, Nat.reduceMul, Nat.reduceSub, Nat.reduceLeDiff, Nat.reduceLT, Nat.reduceEqDiff, ↓reduceIte, r_gr_wi, r_gl_wi, r_gk_wi, r_gn_wi, r_wi_eq, r_wi_ne, r_wi_nj, r_gi_wr, r_gl_wr, r_gk_wr, r_gn_wr, r_gr_wa, r_gl_wa, r_gk_wa, r_gn_wa, aa_e, as_e, al_e, u_lt, u_le, u_gt, u_ge, u_lt0, u_le0, u_gt0, u_ge0, Classical.not_not, not_true_eq_false, not_false_eq_true, oi_n, oi_m, n_dec, nI_add, pk_mul, n_sub, n_eq, n_le, n_lt, n_eq0, n_lt0, n_le0, n_0lt, n_0le, n_eqm, m_eqn, n_ltm, n_and, n_or, n_xor, n_shl, n_shr, tb1, tb0, bP_1, bP_0, bP_n0, ix_n, inb_n, u_eq, u_eqm, k59 L, f59_0 L, k21 L, ma_k M, ma_k1 M, ma_k2 M, ma_k3 M, ma_k12 M, ma_k13 M, ma_k14 M, ma_r2 M, ma_r3 M, ma_r4 M, ma_r5 M, ma_r6 M, ma_r7 M, sl, C.1.2.2, e9, om]
        refine wc (c_Ma_unable W M V slb) ⟨by omega, by omega⟩ ?_
        simp (maxSteps := 1000000) (disch := omega) only [slk, List.map_cons, List.map_nil, List.sum_cons, List.sum_nil, vc_i, vc_r, vc_n, vc_l, vc_o, Nat.add_zero, kO_e, kA_e, hdO_a, eq_self, blk, stp, lg, ls0, lk, ls1, ls2, kI_i, kL_l, kR_r, kR_n, kR_o, s1I_i, s2I_i, s1L_l, s2L_l, s1R_r, s1R_n, s1R_o, s1A_a, cmpc, popn, swt, rf_s, rf_n, cat_i, cat_r, cat_n, cat_l, true_and, and_true, List.length_cons, List.length_nil, Nat.zero_add, Int.reduceToNat, Nat.reduceAdd, Nat.reduceDiv, Nat.reduceMod, Nat.reduceMul, Nat.reduceSub, Nat.reduceLeDiff, Nat.reduceLT, Nat.reduceEqDiff, ↓reduceIte, r_gr_wi, r_gl_wi, r_gk_wi, r_gn_wi, r_wi_eq, r_wi_ne, r_wi_nj, r_gi_wr, r_gl_wr, r_gk_wr, r_gn_wr, r_gr_wa, r_gl_wa, r_gk_wa, r_gn_wa, aa_e, as_e, al_e, u_lt, u_le, u_gt, u_ge, u_lt0, u_le0, u_gt0, u_ge0, Classical.not_not, not_true_eq_false, not_false_eq_true, oi_n, oi_m, n_dec, nI_add, pk_mul, n_sub, n_eq, n_le, n_lt, n_eq0, n_lt0, n_le0, n_0lt, n_0le, n_eqm, m_eqn, n_ltm, n_and, n_or, n_xor, n_shl, n_shr, tb1, tb0, bP_1, bP_0, bP_n0, ix_n, inb_n, u_eq, u_eqm, k59 L, f59_0 L, k21 L, ma_k M, ma_k1 M, ma_k2 M, ma_k3 M, ma_k12 M, ma_k13 M, ma_k14 M, ma_r2 M, ma_r3 M, ma_r4 M, ma_r5 M, ma_r6 M, ma_r7 M, sl, C.1.2.2, e9, om]
        have take : (∀ q, brG s m k = some q → kyN (bdN s m k) < kyN q) → P 56 [some (.ref 59), some (.ref b), some (.int (oN (brG s m k))), some (.int (nI k)), some (.int (nI (bdN s m k)))] [] h2 0 0 := by
          intro z
          refine hP.1 _ _ s_Co_barring_56 _ _ _ _ _ ?_
          simp (maxSteps := 1000000) (disch := omega) only [g_Co_barring_56, slk, List.map_cons, List.map_nil, List.sum_cons, List.sum_nil, vc_i, vc_r, vc_n, vc_l, vc_o, Nat.add_zero, kO_e, kA_e, hdO_a, eq_self, blk, stp, lg, ls0, lk, ls1, ls2, kI_i, kL_l, kR_r, kR_n, kR_o, s1I_i, s2I_i, s1L_l, s2L_l, s1R_r, s1R_n, s1R_o, s1A_a, cmpc, popn, swt, rf_s, rf_n, cat_i, cat_r, cat_n, cat_l, true_and, and_true, List.length_cons, List.length_nil, Nat.zero_add, Int.reduceToNat, Nat.reduceAdd, Nat.reduceDiv, Nat.reduceMod, Nat.reduceMul, Nat.reduceSub, Nat.reduceLeDiff, Nat.reduceLT, Nat.reduceEqDiff, ↓reduceIte, r_gr_wi, r_gl_wi, r_gk_wi, r_gn_wi, r_wi_eq, r_wi_ne, r_wi_nj, r_gi_wr, r_gl_wr, r_gk_wr, r_gn_wr, r_gr_wa, r_gl_wa, r_gk_wa, r_gn_wa, aa_e, as_e, al_e, u_lt, u_le, u_gt, u_ge, u_lt0, u_le0, u_gt0, u_ge0, Classical.not_not, not_true_eq_false, not_false_eq_true, oi_n, oi_m, n_dec, nI_add, pk_mul, n_sub, n_eq, n_le, n_lt, n_eq0, n_lt0, n_le0, n_0lt, n_0le, n_eqm, m_eqn, n_ltm, n_and, n_or, n_xor, n_shl, n_shr, tb1, tb0, bP_1, bP_0, bP_n0, ix_n, inb_n, u_eq, u_eqm, ma_k M, ma_k1 M, ma_k2 M, ma_k3 M, ma_k12 M, ma_k13 M, ma_k14 M, ma_r2 M, ma_r3 M, ma_r4 M, ma_r5 M, ma_r6 M, ma_r7 M, sl, C.1.2.2, e9, om]
          exact nx _ _ (by rw [ye ⟨pr, z⟩]; rfl)
        refine ⟨fun z => take (fun q e => by rw [z] at e; cases e), fun z => ?_⟩
        cases eb : brG s m k with
        | none => exact absurd eb z
        | some q2 =>
          have q8 := bl q2 eb
          rw [eb] at take no ye
          have e3 : oN (some q2) = nI q2 := rfl
          rw [e3] at take ⊢
          refine hP.1 _ _ s_Co_barring_47 _ _ _ _ _ ?_
          simp (maxSteps := 1000000) (disch := omega) only [g_Co_barring_47, slk, List.map_cons, List.map_nil, List.sum_cons, List.sum_nil, vc_i, vc_r, vc_n, vc_l, vc_o, Nat.add_zero, kO_e, kA_e, hdO_a, eq_self, blk, stp, lg, ls0, lk, ls1, ls2, kI_i, kL_l, kR_r, kR_n, kR_o, s1I_i, s2I_i, s1L_l, s2L_l, s1R_r, s1R_n, s1R_o, s1A_a, cmpc, popn, swt, rf_s, rf_n, cat_i, cat_r, cat_n, cat_l, true_and, and_true, List.length_cons, List.length_nil, Nat.zero_add, Int.reduceToNat, Nat.reduceAdd, Nat.reduceDiv, Nat.reduceMod, Nat.reduceMul, Nat.reduceSub, Nat.reduceLeDiff, Nat.reduceLT, Nat.reduceEqDiff, ↓reduceIte, r_gr_wi, r_gl_wi, r_gk_wi, r_gn_wi, r_wi_eq, r_wi_ne, r_wi_nj, r_gi_wr, r_gl_wr, r_gk_wr, r_gn_wr, r_gr_wa, r_gl_wa, r_gk_wa, r_gn_wa, aa_e, as_e, al_e, u_lt, u_le, u_gt, u_ge, u_lt0, u_le0, u_gt0, u_ge0, Classical.not_not, not_true_eq_false, not_false_eq_true, oi_n, oi_m, n_dec, nI_add, pk_mul, n_sub, n_eq, n_le, n_lt, n_eq0, n_lt0, n_le0, n_0lt, n_0le, n_eqm, m_eqn, n_ltm, n_and, n_or, n_xor, n_shl, n_shr, tb1, tb0, bP_1, bP_0, bP_n0, ix_n, inb_n, u_eq, u_eqm, ma_k M, ma_k1 M, ma_k2 M, ma_k3 M, ma_k12 M, ma_k13 M, ma_k14 M, ma_r2 M, ma_r3 M, ma_r4 M, ma_r5 M, ma_r6 M, ma_r7 M]
          refine wc (c_T_comesFirst (a := bdN s m k) (b := q2) ub q8) ⟨by omega, by omega⟩ ?_
          simp (maxSteps := 1000000) (disch := omega) only [slk, List.map_cons, List.map_nil, List.sum_cons, List.sum_nil, vc_i, vc_r, vc_n, vc_l, vc_o, Nat.add_zero, kO_e, kA_e, hdO_a, eq_self, blk, stp, lg, ls0, lk, ls1, ls2, kI_i, kL_l, kR_r, kR_n, kR_o, s1I_i, s2I_i, s1L_l, s2L_l, s1R_r, s1R_n, s1R_o, s1A_a, cmpc, popn, swt, rf_s, rf_n, cat_i, cat_r, cat_n, cat_l, true_and, and_true, List.length_cons, List.length_nil, Nat.zero_add, Int.reduceToNat, Nat.reduceAdd, Nat.reduceDiv, Nat.reduceMod, Nat.reduceMul, Nat.reduceSub, Nat.reduceLeDiff, Nat.reduceLT, Nat.reduceEqDiff, ↓reduceIte, r_gr_wi, r_gl_wi, r_gk_wi, r_gn_wi, r_wi_eq, r_wi_ne, r_wi_nj, r_gi_wr, r_gl_wr, r_gk_wr, r_gn_wr, r_gr_wa, r_gl_wa, r_gk_wa, r_gn_wa, aa_e, as_e, al_e, u_lt, u_le, u_gt, u_ge, u_lt0, u_le0, u_gt0, u_ge0, Classical.not_not, not_true_eq_false, not_false_eq_true, oi_n, oi_m, n_dec, nI_add, pk_mul, n_sub, n_eq, n_le, n_lt, n_eq0, n_lt0, n_le0, n_0lt, n_0le, n_eqm, m_eqn, n_ltm, n_and, n_or, n_xor, n_shl, n_shr, tb1, tb0, bP_1, bP_0, bP_n0, ix_n, inb_n, u_eq, u_eqm, ma_k M, ma_k1 M, ma_k2 M, ma_k3 M, ma_k12 M, ma_k13 M, ma_k14 M, ma_r2 M, ma_r3 M, ma_r4 M, ma_r5 M, ma_r6 M, ma_r7 M]
          refine ⟨fun z2 => nx _ _ (by rw [no (fun w => z2 (w.2 q2 rfl))]; rfl), fun z2 => ?_⟩
          exact take (fun q e => by cases e; first | exact z2 | exact Classical.not_not.mp z2)
  refine hP.1 _ _ s_Co_barring_0 _ _ _ _ _ ?_
  simp (maxSteps := 1000000) (disch := omega) only [g_Co_barring_0, slk, List.map_cons, List.map_nil, List.sum_cons, List.sum_nil, vc_i, vc_r, vc_n, vc_l, vc_o, Nat.add_zero, kO_e, kA_e, hdO_a, eq_self, blk, stp, lg, ls0, lk, ls1, ls2, kI_i, kL_l, kR_r, kR_n, kR_o, s1I_i, s2I_i, s1L_l, s2L_l, s1R_r, s1R_n, s1R_o, s1A_a, cmpc, popn, swt, rf_s, rf_n, cat_i, cat_r, cat_n, cat_l, true_and, and_true, List.length_cons, List.length_nil, Nat.zero_add, Int.reduceToNat, Nat.reduceAdd, Nat.reduceDiv, Nat.reduceMod, Nat.reduceMul, Nat.reduceSub, Nat.reduceLeDiff, Nat.reduceLT, Nat.reduceEqDiff, ↓reduceIte, r_gr_wi, r_gl_wi, r_gk_wi, r_gn_wi, r_wi_eq, r_wi_ne, r_wi_nj, r_gi_wr, r_gl_wr, r_gk_wr, r_gn_wr, r_gr_wa, r_gl_wa, r_gk_wa, r_gn_wa, aa_e, as_e, al_e, u_lt, u_le, u_gt, u_ge, u_lt0, u_le0, u_gt0, u_ge0, Classical.not_not, not_true_eq_false, not_false_eq_true, oi_n, oi_m, n_dec, nI_add, pk_mul, n_sub, n_eq, n_le, n_lt, n_eq0, n_lt0, n_le0, n_0lt, n_0le, n_eqm, m_eqn, n_ltm, n_and, n_or, n_xor, n_shl, n_shr, tb1, tb0, bP_1, bP_0, bP_n0, ix_n, inb_n, u_eq, u_eqm, ma_k M, ma_k1 M, ma_k2 M, ma_k3 M, ma_k12 M, ma_k13 M, ma_k14 M, ma_r2 M, ma_r3 M, ma_r4 M, ma_r5 M, ma_r6 M, ma_r7 M]
  exact loop _ 0 none (Nat.zero_add _)
end
/-! what may rest -/
noncomputable def opB (w : Nat) (n : Nat) : Nat := orN n (fun p => (w >>> p &&& 1) * 15 <<< (4 * p))
theorem opB_bit (w n i : Nat) : (opB w n).testBit i = true ↔ i / 4 < n ∧ w.testBit (i / 4) = true := by
  unfold opB
  rw [orN_bit]
  constructor
  · rintro ⟨j, hj, q⟩
    rw [sh1] at q
    by_cases z : w.testBit j = true
    · rw [if_pos z, Nat.one_mul, f15_bit] at q
      rw [show i / 4 = j by omega]
      exact ⟨hj, z⟩
    · rw [if_neg z, Nat.zero_mul, Nat.zero_testBit] at q
      cases q
  · rintro ⟨h1, h2⟩
    refine ⟨i / 4, h1, ?_⟩
    rw [sh1, if_pos h2, Nat.one_mul, f15_bit]
    omega
theorem so_bit {s : St} (m w p : Nat) : (adN (evN s m) w).testBit p = true ↔ p < s 112 m ∧ ¬ w.testBit p = true := by
  rw [adN_bit, Bool.and_eq_true, ev_bit, Bool.not_eq_true', Bool.not_eq_true]
theorem un_op {h : AH} {s : St} (W : RH h s) (g0 : s 107 22 = 0) {e m x w : Nat} (he : e < s 107 18) (hm : m < s 107 19) (hx : isPr s m x) : (unB s m (adN (slN (s 112 m) (s 113 m) x) (opB w (s 112 m)))).testBit e = true ↔ ¬ brP s e m x (adN (evN s m) w) := by
  have r2 := rs_p W hm
  have sb : ∀ i, (adN (slN (s 112 m) (s 113 m) x) (opB w (s 112 m))).testBit i = true ↔ (i / 4 < s 112 m ∧ i % 4 = wyN (s 112 m) x (i / 4)) ∧ ¬ w.testBit (i / 4) = true := by
    intro i
    rw [adN_bit, Bool.and_eq_true, sl_bit hx.2, Bool.not_eq_true', ← Bool.not_eq_true, opB_bit]
    constructor
    · rintro ⟨q1, q2⟩
      exact ⟨q1, fun z => q2 ⟨q1.1, z⟩⟩
    · rintro ⟨q1, q2⟩
      exact ⟨q1, fun z => q2 z.2⟩
  have hb : ∀ p v, cbP s e m p v ↔ 0 < s 114 (((4 * e + m) * 5 + p) * 4 + v) := by
    intro p v
    refine ⟨fun q => q.elim id (fun ⟨k, hk, q2⟩ => ?_), Or.inl⟩
    have := q2.1
    rw [g0, Nat.zero_testBit] at this
    cases this
  have hc : clsP s e m x (adN (evN s m) w) none ↔ ∃ k, k < s 107 20 ∧ s 120 k = m ∧ s 119 k = e ∧ adN (clE s k).2 (adN (slN (s 112 m) (s 113 m) x) (opB w (s 112 m))) = 0 := by
    unfold clsP clP
    constructor
    · rintro ⟨k, hk, a1, a2, ⟨a3, a4, _⟩, a5, a6⟩
      have r := rs_cl W hk
      rw [a2] at r
      refine ⟨k, hk, a2, a1, ?_⟩
      show adN (1 <<< _ ||| 1 <<< _) _ = 0
      rw [ad_two, sb, sb]
      rw [so_bit] at a3 a4
      rw [show (4 * s 121 k + s 122 k) / 4 = s 121 k by omega, show (4 * s 123 k + s 124 k) / 4 = s 123 k by omega, a5, a6]
      exact ⟨⟨⟨a3.1, by omega⟩, a3.2⟩, ⟨⟨a4.1, by omega⟩, a4.2⟩⟩
    · rintro ⟨k, hk, a2, a1, a3⟩
      have r := rs_cl W hk
      rw [a2] at r
      have a3 : adN (1 <<< (4 * s 121 k + s 122 k) ||| 1 <<< (4 * s 123 k + s 124 k)) (adN (slN (s 112 m) (s 113 m) x) (opB w (s 112 m))) = 0 := a3
      rw [ad_two, sb, sb] at a3
      rw [show (4 * s 121 k + s 122 k) / 4 = s 121 k by omega, show (4 * s 123 k + s 124 k) / 4 = s 123 k by omega] at a3
      exact ⟨k, hk, a1, a2, ⟨(so_bit _ _ _).mpr ⟨a3.1.1.1, a3.1.2⟩, (so_bit _ _ _).mpr ⟨a3.2.1.1, a3.2.2⟩, Or.inl rfl⟩, by omega, by omega⟩
  rw [unB_bit W _ _ he]
  unfold brP
  rw [hc]
  constructor
  · rintro (q | ⟨i, b1, b2, b3⟩) z
    · exact z.2 q
    · rw [sb] at b3
      have := (hb _ _).mp (z.1 (i / 4) b3.1.1 ((so_bit _ _ _).mpr ⟨b3.1.1, b3.2⟩))
      rw [← b3.1.2, idx_eq, show 4 * (i / 4) + i % 4 = i by omega] at this
      omega
  · intro q
    by_cases z : ∃ k, k < s 107 20 ∧ s 120 k = m ∧ s 119 k = e ∧ adN (clE s k).2 (adN (slN (s 112 m) (s 113 m) x) (opB w (s 112 m))) = 0
    · exact Or.inl z
    · refine Or.inr ?_
      apply Classical.byContradiction
      intro n
      refine q ⟨fun p hp hs => (hb _ _).mpr (Nat.pos_of_ne_zero fun y => n ⟨4 * p + wyN (s 112 m) x p, ?_, ?_, ?_⟩), z⟩
      · have := wyN_lt (s 112 m) x p
        omega
      · rw [← idx_eq]
        exact y
      · have := wyN_lt (s 112 m) x p
        rw [sb, show (4 * p + wyN (s 112 m) x p) / 4 = p by omega]
        exact ⟨⟨hp, by omega⟩, ((so_bit _ _ _).mp hs).2⟩
/-- the open parts' first ways -/
def zrN (P x w : Nat) : Nat → Nat
  | 0 => x
  | k + 1 => if w.testBit k = true then wwN P (zrN P x w k) k 0 else zrN P x w k
theorem zr_ok {h : AH} {s : St} (W : RH h s) {m x w : Nat} (hm : m < s 107 19) (hx : isPr s m x) : ∀ k, k ≤ s 112 m → isPr s m (zrN (s 112 m) x w k) ∧ ∀ p, p < s 112 m → wyN (s 112 m) (zrN (s 112 m) x w k) p = if p < k ∧ w.testBit p = true then 0 else wyN (s 112 m) x p := by
  have r2 := rs_p W hm
  intro k
  induction k with
  | zero => exact fun _ => ⟨hx, fun p hp => by rw [if_neg (fun z => by omega)]; rfl⟩
  | succ k ih =>
    intro hk
    obtain ⟨i1, i2⟩ := ih (by omega)
    by_cases q : w.testBit k = true
    · rw [show zrN (s 112 m) x w (k + 1) = wwN (s 112 m) (zrN (s 112 m) x w k) k 0 from if_pos q]
      refine ⟨ww_pr W hm i1 (by omega) (by omega), fun p hp => ?_⟩
      rw [wy_ww (by omega) (by omega) hp, i2 p hp]
      by_cases e : p = k
      · subst e
        rw [if_pos rfl, if_pos ⟨by omega, q⟩]
      · rw [if_neg e]
        by_cases z : p < k ∧ w.testBit p = true
        · rw [if_pos z, if_pos ⟨by omega, z.2⟩]
        · rw [if_neg z, if_neg (fun y => z ⟨by omega, y.2⟩)]
    · rw [show zrN (s 112 m) x w (k + 1) = zrN (s 112 m) x w k from if_neg q]
      refine ⟨i1, fun p hp => ?_⟩
      rw [i2 p hp]
      by_cases z : p < k ∧ w.testBit p = true
      · rw [if_pos z, if_pos ⟨by omega, z.2⟩]
      · refine (if_neg z).trans (if_neg (fun y => ?_)).symm
        by_cases e : p = k
        · subst e
          exact q y.2
        · exact z ⟨by omega, y.2⟩
theorem br_wy {s : St} {e m x y so : Nat} (hs : ∀ p, p < s 112 m → so.testBit p = true → wyN (s 112 m) x p = wyN (s 112 m) y p) (hso : ∀ p, so.testBit p = true → p < s 112 m) (hb : brP s e m x so) : brP s e m y so := by
  refine ⟨fun p hp h1 => by rw [← hs p hp h1]; exact hb.1 p hp h1, fun z => hb.2 ?_⟩
  obtain ⟨k, hk, a1, a2, a3, a4, a5⟩ := z
  exact ⟨k, hk, a1, a2, a3, by rw [hs _ (hso _ a3.1) a3.1]; exact a4, by rw [hs _ (hso _ a3.2.1) a3.2.1]; exact a5⟩
theorem bfw_bit : ∀ i, i < 20 → (978670 : Nat).testBit i = true → i % 4 ≠ 0 := by decide
section
variable {h : AH} {s : St} {d m b : Nat}
/-- what the class asks of a proposal -/
def clO (s : St) (m w x : Nat) : Prop := (isPr s m x ∧ slN (s 112 m) (s 113 m) x &&& opB w (s 112 m) &&& 978670 = 0) ∧ unB s m (adN (slN (s 112 m) (s 113 m) x) (opB w (s 112 m))) &&& thoN s = 0
theorem clO_op (W : RH h s) (g0 : s 107 22 = 0) {w : Nat} (hm : m < s 107 19) : (∃ x, clO s m w x) ↔ opP s m 0 (adN (evN s m) w) := by
  have r2 := rs_p W hm
  have key : ∀ x, isPr s m x → (unB s m (adN (slN (s 112 m) (s 113 m) x) (opB w (s 112 m))) &&& thoN s = 0 ↔ ∀ j, j < sn s → brP s (sd s j) m x (adN (evN s m) w)) := by
    intro x pr
    rw [and_bit0]
    constructor
    · intro q j hj
      apply Classical.byContradiction
      intro z
      have so := seat_of W hj
      exact q (sd s j) ⟨(un_op W g0 so.1 hm pr).mpr z, (tho_bit W _).mpr so⟩
    · rintro q e ⟨q1, q2⟩
      have so := (tho_bit W e).mp q2
      obtain ⟨j, hj, rfl⟩ := seat_ix W so
      exact (un_op W g0 so.1 hm pr).mp q1 (q j hj)
  constructor
  · rintro ⟨x, ⟨pr, _⟩, u⟩
    exact ⟨x, pr, fun j hj => Or.inr ((key x pr).mp u j hj)⟩
  · rintro ⟨x, pr, q⟩
    obtain ⟨z1, z2⟩ := zr_ok (w := w) W hm pr (s 112 m) (Nat.le_refl _)
    refine ⟨zrN (s 112 m) x w (s 112 m), ⟨z1, ?_⟩, (key _ z1).mpr fun j hj => ?_⟩
    · rw [and_bit0]
      rintro i ⟨i1, i2⟩
      rw [Nat.testBit_and, Bool.and_eq_true, sl_bit z1.2, opB_bit] at i1
      have := z2 (i / 4) i1.1.1
      rw [if_pos i1.2] at this
      exact bfw_bit i (by omega) i2 (by omega)
    · have := (q j hj).resolve_left (fun y => by rw [Nat.zero_testBit] at y; cases y)
      refine br_wy (fun p hp h1 => ?_) (fun p h1 => ((so_bit _ _ _).mp h1).1) this
      rw [z2 p hp, if_neg (fun y => ((so_bit _ _ _).mp h1).2 y.2)]
theorem opB_lt {w n : Nat} (hn : n ≤ 5) : opB w n < 2 ^ 20 := by
  rw [lt_pow_bit]
  intro i hi
  cases q : (opB w n).testBit i with
  | false => rfl
  | true =>
    rw [opB_bit] at q
    omega
theorem c_Co_canLeaveOpen (W : RH h s) (g0 : s 107 22 = 0) {h2 : AH} (L : Lay h2) (C : CC h2 s) (hm : m < s 107 19) (M : MA h2 b (s 112 m)) (V : MV h2 s m b) {w : Nat} (hw : w < 32) : Mz (d + 3) 163 [.ref 59, .ref b, .int (nI w)] h2 0 0 (Rt (bP (opP s m 0 (adN (evN s m) w))) h2) := by
  have b4 := rs_p W hm
  have b5 := sh_1024 b4.2.1
  have ol : ∀ k, k ≤ 5 → opB w k < 2 ^ 20 := fun k hk => opB_lt hk
  have ob := ol _ b4.2.1
  have op := clO_op (w := w) W g0 hm
  refine mz_in (l := [some (.ref 59), some (.ref b), some (.int (nI w)), none, none, none, none]) mk_Co_canLeaveOpen n_Co_canLeaveOpen rfl l_Co_canLeaveOpen rfl (Nat.le_of_ble_eq_true rfl) fun P hP => ?_
  have loop2 : ∀ n k (x5 x6 : Option Value), k + n = 1 <<< (2 * s 112 m) → (∀ x, x < k → ¬ clO s m w x) → P 42 [some (.ref 59), some (.ref b), some (.int (nI w)), some (.int (nI (opB w (s 112 m)))), some (.int (nI k)), x5, x6] [] h2 0 0 := by
    intro n
    induction n using Nat.strongRecOn with
    | _ n ih =>
      intro k x5 x6 hk hI
      refine hP.1 _ _ s_Co_canLeaveOpen_42 _ _ _ _ _ ?_
      simp (maxSteps := 1000000) (disch := omega) only [g_Co_canLeaveOpen_42, slk, List.map_cons, List.map_nil, List.sum_cons, List.sum_nil, vc_i, vc_r, vc_n, vc_l, vc_o, Nat.add_zero, kO_e, kA_e, hdO_a, eq_self, blk, stp, lg, ls0, lk, ls1, ls2, kI_i, kL_l, kR_r, kR_n, kR_o, s1I_i, s2I_i, s1L_l, s2L_l, s1R_r, s1R_n, s1R_o, s1A_a, cmpc, popn, swt, rf_s, rf_n, cat_i, cat_r, cat_n, cat_l, true_and, and_true, List.length_cons, List.length_nil, Nat.zero_add, Int.reduceToNat, Nat.reduceAdd, Nat.reduceDiv, Nat.reduceMod, Nat.reduceMul, Nat.reduceSub, Nat.reduceLeDiff, Nat.reduceLT, Nat.reduceEqDiff, ↓reduceIte, r_gr_wi, r_gl_wi, r_gk_wi, r_gn_wi, r_wi_eq, r_wi_ne, r_wi_nj, r_gi_wr, r_gl_wr, r_gk_wr, r_gn_wr, r_gr_wa, r_gl_wa, r_gk_wa, r_gn_wa, aa_e, as_e, al_e, u_lt, u_le, u_gt, u_ge, u_lt0, u_le0, u_gt0, u_ge0, Classical.not_not, not_true_eq_false, not_false_eq_true, oi_n, oi_m, n_dec, nI_add, pk_mul, n_sub, n_eq, n_le, n_lt, n_eq0, n_lt0, n_le0, n_0lt, n_0le, n_eqm, m_eqn, n_ltm, n_and, n_or, n_xor, n_shl, n_shr, tb1, tb0, bP_1, bP_0, bP_n0, ix_n, inb_n, u_eq, u_eqm, ma_k M, ma_k1 M, ma_k2 M, ma_k3 M, ma_k12 M, ma_k13 M, ma_k14 M, ma_r2 M, ma_r3 M, ma_r4 M, ma_r5 M, ma_r6 M, ma_r7 M]
      refine ⟨fun hc => ?_, fun hc => ?_⟩
      · have e1 : k = 1 <<< (2 * s 112 m) := by omega
        subst e1
        refine hP.1 _ _ s_Co_canLeaveOpen_117 _ _ _ _ _ ?_
        simp (maxSteps := 1000000) (disch := omega) only [g_Co_canLeaveOpen_117, slk, List.map_cons, List.map_nil, List.sum_cons, List.sum_nil, vc_i, vc_r, vc_n, vc_l, vc_o, Nat.add_zero, kO_e, kA_e, hdO_a, eq_self, blk, stp, lg, ls0, lk, ls1, ls2, kI_i, kL_l, kR_r, kR_n, kR_o, s1I_i, s2I_i, s1L_l, s2L_l, s1R_r, s1R_n, s1R_o, s1A_a, cmpc, popn, swt, rf_s, rf_n, cat_i, cat_r, cat_n, cat_l, true_and, and_true, List.length_cons, List.length_nil, Nat.zero_add, Int.reduceToNat, Nat.reduceAdd, Nat.reduceDiv, Nat.reduceMod, Nat.reduceMul, Nat.reduceSub, Nat.reduceLeDiff, Nat.reduceLT, Nat.reduceEqDiff, ↓reduceIte, r_gr_wi, r_gl_wi, r_gk_wi, r_gn_wi, r_wi_eq, r_wi_ne, r_wi_nj, r_gi_wr, r_gl_wr, r_gk_wr, r_gn_wr, r_gr_wa, r_gl_wa, r_gk_wa, r_gn_wa, aa_e, as_e, al_e, u_lt, u_le, u_gt, u_ge, u_lt0, u_le0, u_gt0, u_ge0, Classical.not_not, not_true_eq_false, not_false_eq_true, oi_n, oi_m, n_dec, nI_add, pk_mul, n_sub, n_eq, n_le, n_lt, n_eq0, n_lt0, n_le0, n_0lt, n_0le, n_eqm, m_eqn, n_ltm, n_and, n_or, n_xor, n_shl, n_shr, tb1, tb0, bP_1, bP_0, bP_n0, ix_n, inb_n, u_eq, u_eqm, ma_k M, ma_k1 M, ma_k2 M, ma_k3 M, ma_k12 M, ma_k13 M, ma_k14 M, ma_r2 M, ma_r3 M, ma_r4 M, ma_r5 M, ma_r6 M, ma_r7 M]
        exact lfF r_Co_canLeaveOpen (fun z => by
          obtain ⟨x, hx⟩ := op.mpr z
          exact hI x hx.1.1.1 hx) rfl
      · have hk2 : k < 1 <<< (2 * s 112 m) := by omega
        have sl := V.2.1 k hk2
        have slb := sl_lt b4.2.1 (s 113 m) k
        have ps := pr_sl (x := k) b4.1 hk2
        have al := adN_lt (b := opB w (s 112 m)) slb
        have a1 := and_lt (b := opB w (s 112 m)) slb
        have a2 := and_lt (b := 978670) a1
        have ub := unB_lt W m (adN (slN (s 112 m) (s 113 m) k) (opB w (s 112 m)))
        have ul := and_lt (b := thoN s) ub
        have nx : ¬ clO s m w k → ∀ x5 x6, P 111 [some (.ref 59), some (.ref b), some (.int (nI w)), some (.int (nI (opB w (s 112 m)))), some (.int (nI k)), x5, x6] [] h2 0 0 := by
          intro q x5 x6
          refine hP.1 _ _ s_Co_canLeaveOpen_111 _ _ _ _ _ ?_
          simp (maxSteps := 1000000) (disch := omega) only [g_Co_canLeaveOpen_111, slk, List.map_cons, List.map_nil, List.sum_cons, List.sum_nil, vc_i, vc_r, vc_n, vc_l, vc_o, Nat.add_zero, kO_e, kA_e, hdO_a, eq_self, blk, stp, lg, ls0, lk, ls1, ls2, kI_i, kL_l, kR_r, kR_n, kR_o, s1I_i, s2I_i, s1L_l, s2L_l, s1R_r, s1R_n, s1R_o, s1A_a, cmpc, popn, swt, rf_s, rf_n, cat_i, cat_r, cat_n, cat_l, true_and, and_true, List.length_cons, List.length_nil, Nat.zero_add, Int.reduceToNat, Nat.reduceAdd, Nat.reduceDiv, Nat.reduceMod, Nat.reduceMul, Nat.reduceSub, Nat.reduceLeDiff, Nat.reduceLT, Nat.reduceEqDiff, ↓reduceIte, r_gr_wi, r_gl_wi, r_gk_wi, r_gn_wi, r_wi_eq, r_wi_ne, r_wi_nj, r_gi_wr, r_gl_wr, r_gk_wr, r_gn_wr, r_gr_wa, r_gl_wa, r_gk_wa, r_gn_wa, aa_e, as_e, al_e, u_lt, u_le, u_gt, u_ge, u_lt0, u_le0, u_gt0, u_ge0, Classical.not_not, not_true_eq_false, not_false_eq_true, oi_n, oi_m, n_dec, nI_add, pk_mul, n_sub, n_eq, n_le, n_lt, n_eq0, n_lt0, n_le0, n_0lt, n_0le, n_eqm, m_eqn, n_ltm, n_and, n_or, n_xor, n_shl, n_shr, tb1, tb0, bP_1, bP_0, bP_n0, ix_n, inb_n, u_eq, u_eqm, ma_k M, ma_k1 M, ma_k2 M, ma_k3 M, ma_k12 M, ma_k13 M, ma_k14 M, ma_r2 M, ma_r3 M, ma_r4 M, ma_r5 M, ma_r6 M, ma_r7 M]
          refine ih (n - 1) (by omega) (k + 1) _ _ (by omega) (fun x hx => ?_)
          by_cases e : x = k
          · rw [e]
            exact q
          · exact hI x (by omega)
        have bad : ¬ clO s m w k → ∀ x6, P 80 [some (.ref 59), some (.ref b), some (.int (nI w)), some (.int (nI (opB w (s 112 m)))), some (.int (nI k)), some (.int (nI (slN (s 112 m) (s 113 m) k))), x6] [] h2 0 0 := by
          intro q x6
          refine hP.1 _ _ s_Co_canLeaveOpen_80 _ _ _ _ _ ?_
          simp (maxSteps := 1000000) (disch := omega) only [g_Co_canLeaveOpen_80, slk, List.map_cons, List.map_nil, List.sum_cons, List.sum_nil, vc_i, vc_r, vc_n, vc_l, vc_o, Nat.add_zero, kO_e, kA_e, hdO_a, eq_self, blk, stp, lg, ls0, lk, ls1, ls2, kI_i, kL_l, kR_r, kR_n, kR_o, s1I_i, s2I_i, s1L_l, s2L_l, s1R_r, s1R_n, s1R_o, s1A_a, cmpc, popn, swt, rf_s, rf_n, cat_i, cat_r, cat_n, cat_l, true_and, and_true, List.length_cons, List.length_nil, Nat.zero_add, Int.reduceToNat, Nat.reduceAdd, Nat.reduceDiv, Nat.reduceMod, Nat.reduceMul, Nat.reduceSub, Nat.reduceLeDiff, Nat.reduceLT, Nat.reduceEqDiff, ↓reduceIte, r_gr_wi, r_gl_wi, r_gk_wi, r_gn_wi, r_wi_eq, r_wi_ne, r_wi_nj, r_gi_wr, r_gl_wr, r_gk_wr, r_gn_wr, r_gr_wa, r_gl_wa, r_gk_wa, r_gn_wa, aa_e, as_e, al_e, u_lt, u_le, u_gt, u_ge, u_lt0, u_le0, u_gt0, u_ge0, Classical.not_not, not_true_eq_false, not_false_eq_true, oi_n, oi_m, n_dec, nI_add, pk_mul, n_sub, n_eq, n_le, n_lt, n_eq0, n_lt0, n_le0, n_0lt, n_0le, n_eqm, m_eqn, n_ltm, n_and, n_or, n_xor, n_shl, n_shr, tb1, tb0, bP_1, bP_0, bP_n0, ix_n, inb_n, u_eq, u_eqm, ma_k M, ma_k1 M, ma_k2 M, ma_k3 M, ma_k12 M, ma_k13 M, ma_k14 M, ma_r2 M, ma_r3 M, ma_r4 M, ma_r5 M, ma_r6 M, ma_r7 M]
          refine hP.1 _ _ s_Co_canLeaveOpen_81 _ _ _ _ _ ?_
          simp (maxSteps := 1000000) (disch := omega) only [g_Co_canLeaveOpen_81, slk, List.map_cons, List.map_nil, List.sum_cons, List.sum_nil, vc_i, vc_r, vc_n, vc_l, vc_o, Nat.add_zero, kO_e, kA_e, hdO_a, eq_self, blk, stp, lg, ls0, lk, ls1, ls2, kI_i, kL_l, kR_r, kR_n, kR_o, s1I_i, s2I_i, s1L_l, s2L_l, s1R_r, s1R_n, s1R_o, s1A_a, cmpc, popn, swt, rf_s, rf_n, cat_i, cat_r, cat_n, cat_l, true_and, and_true, List.length_cons, List.length_nil, Nat.zero_add, Int.reduceToNat, Nat.reduceAdd, Nat.reduceDiv, Nat.reduceMod, Nat.reduceMul, Nat.reduceSub, Nat.reduceLeDiff, Nat.reduceLT, Nat.reduceEqDiff, ↓reduceIte, r_gr_wi, r_gl_wi, r_gk_wi, r_gn_wi, r_wi_eq, r_wi_ne, r_wi_nj, r_gi_wr, r_gl_wr, r_gk_wr, r_gn_wr, r_gr_wa, r_gl_wa, r_gk_wa, r_gn_wa, aa_e, as_e, al_e, u_lt, u_le, u_gt, u_ge, u_lt0, u_le0, u_gt0, u_ge0, Classical.not_not, not_true_eq_false, not_false_eq_true, oi_n, oi_m, n_dec, nI_add, pk_mul, n_sub, n_eq, n_le, n_lt, n_eq0, n_lt0, n_le0, n_0lt, n_0le, n_eqm, m_eqn, n_ltm, n_and, n_or, n_xor, n_shl, n_shr, tb1, tb0, bP_1, bP_0, bP_n0, ix_n, inb_n, u_eq, u_eqm, ma_k M, ma_k1 M, ma_k2 M, ma_k3 M, ma_k12 M, ma_k13 M, ma_k14 M, ma_r2 M, ma_r3 M, ma_r4 M, ma_r5 M, ma_r6 M, ma_r7 M]
          refine ⟨fun _ => nx q _ _, fun z => by first | exact z.elim | exact absurd rfl z | exact absurd trivial z⟩
        refine hP.1 _ _ s_Co_canLeaveOpen_52 _ _ _ _ _ ?_
        simp (maxSteps := 1000000) (disch := omega) only [g_Co_canLeaveOpen_52, slk, List.map_cons, List.map_nil, List.sum_cons, List.sum_nil, vc_i, vc_r, vc_n, vc_l, vc_o, Nat.add_zero, kO_e, kA_e, hdO_a, eq_self, blk, stp, lg, ls0, lk, ls1, ls2, kI_i, kL_l, kR_r, kR_n, kR_o, s1I_i, s2I_i, s1L_l, s2L_l, s1R_r, s1R_n, s1R_o, s1A_a, cmpc, popn, swt, rf_s, rf_n, cat_i, cat_r, cat_n, cat_l, true_and, and_true, List.length_cons, List.length_nil, Nat.zero_add, Int.reduceToNat, Nat.reduceAdd, Nat.reduceDiv, Nat.reduceMod, Nat.reduceMul, Nat.reduceSub, Nat.reduceLeDiff, Nat.reduceLT, Nat.reduceEqDiff, ↓reduceIte, r_gr_wi, r_gl_wi, r_gk_wi, r_gn_wi, r_wi_eq, r_wi_ne, r_wi_nj, r_gi_wr, r_gl_wr, r_gk_wr, r_gn_wr, r_gr_wa, r_gl_wa, r_gk_wa, r_gn_wa, aa_e, as_e, al_e, u_lt, u_le, u_gt, u_ge, u_lt0, u_le0, u_gt0, u_ge0, Classical.not_not, not_true_eq_false, not_false_eq_true, oi_n, oi_m, n_dec, nI_add, pk_mul, n_sub, n_eq, n_le, n_lt, n_eq0, n_lt0, n_le0, n_0lt, n_0le, n_eqm, m_eqn, n_ltm, n_and, n_or, n_xor, n_shl, n_shr, tb1, tb0, bP_1, bP_0, bP_n0, ix_n, inb_n, u_eq, u_eqm, ma_k M, ma_k1 M, ma_k2 M, ma_k3 M, ma_k12 M, ma_k13 M, ma_k14 M, ma_r2 M, ma_r3 M, ma_r4 M, ma_r5 M, ma_r6 M, ma_r7 M, sl, C.1.2.2, n_andn]
        refine ⟨fun q => bad (fun z => ps.mp z.1.1 q) _, fun q => ?_⟩
        have pr := ps.mpr q
        refine hP.1 _ _ s_Co_canLeaveOpen_66 _ _ _ _ _ ?_
        simp (maxSteps := 1000000) (disch := omega) only [g_Co_canLeaveOpen_66, slk, List.map_cons, List.map_nil, List.sum_cons, List.sum_nil, vc_i, vc_r, vc_n, vc_l, vc_o, Nat.add_zero, kO_e, kA_e, hdO_a, eq_self, blk, stp, lg, ls0, lk, ls1, ls2, kI_i, kL_l, kR_r, kR_n, kR_o, s1I_i, s2I_i, s1L_l, s2L_l, s1R_r, s1R_n, s1R_o, s1A_a, cmpc, popn, swt, rf_s, rf_n, cat_i, cat_r, cat_n, cat_l, true_and, and_true, List.length_cons, List.length_nil, Nat.zero_add, Int.reduceToNat, Nat.reduceAdd, Nat.reduceDiv, Nat.reduceMod, Nat.reduceMul, Nat.reduceSub, Nat.reduceLeDiff, Nat.reduceLT, Nat.reduceEqDiff, ↓reduceIte, r_gr_wi, r_gl_wi, r_gk_wi, r_gn_wi, r_wi_eq, r_wi_ne, r_wi_nj, r_gi_wr, r_gl_wr, r_gk_wr, r_gn_wr, r_gr_wa, r_gl_wa, r_gk_wa, r_gn_wa, aa_e, as_e, al_e, u_lt, u_le, u_gt, u_ge, u_lt0, u_le0, u_gt0, u_ge0, Classical.not_not, not_true_eq_false, not_false_eq_true, oi_n, oi_m, n_dec, nI_add, pk_mul, n_sub, n_eq, n_le, n_lt, n_eq0, n_lt0, n_le0, n_0lt, n_0le, n_eqm, m_eqn, n_ltm, n_and, n_or, n_xor, n_shl, n_shr, tb1, tb0, bP_1, bP_0, bP_n0, ix_n, inb_n, u_eq, u_eqm, ma_k M, ma_k1 M, ma_k2 M, ma_k3 M, ma_k12 M, ma_k13 M, ma_k14 M, ma_r2 M, ma_r3 M, ma_r4 M, ma_r5 M, ma_r6 M, ma_r7 M, sl, C.1.2.2, n_andn]
        refine ⟨fun q2 => bad (fun z => q2 z.1.2) _, fun q2 => ?_⟩
        refine hP.1 _ _ s_Co_canLeaveOpen_76 _ _ _ _ _ ?_
        simp (maxSteps := 1000000) (disch := omega) only [g_Co_canLeaveOpen_76, slk, List.map_cons, List.map_nil, List.sum_cons, List.sum_nil, vc_i, vc_r, vc_n, vc_l, vc_o, Nat.add_zero, kO_e, kA_e, hdO_a, eq_self, blk, stp, lg, ls0, lk, ls1, ls2, kI_i, kL_l, kR_r, kR_n, kR_o, s1I_i, s2I_i, s1L_l, s2L_l, s1R_r, s1R_n, s1R_o, s1A_a, cmpc, popn, swt, rf_s, rf_n, cat_i, cat_r, cat_n, cat_l, true_and, and_true, List.length_cons, List.length_nil, Nat.zero_add, Int.reduceToNat, Nat.reduceAdd, Nat.reduceDiv, Nat.reduceMod, Nat.reduceMul, Nat.reduceSub, Nat.reduceLeDiff, Nat.reduceLT, Nat.reduceEqDiff, ↓reduceIte, r_gr_wi, r_gl_wi, r_gk_wi, r_gn_wi, r_wi_eq, r_wi_ne, r_wi_nj, r_gi_wr, r_gl_wr, r_gk_wr, r_gn_wr, r_gr_wa, r_gl_wa, r_gk_wa, r_gn_wa, aa_e, as_e, al_e, u_lt, u_le, u_gt, u_ge, u_lt0, u_le0, u_gt0, u_ge0, Classical.not_not, not_true_eq_false, not_false_eq_true, oi_n, oi_m, n_dec, nI_add, pk_mul, n_sub, n_eq, n_le, n_lt, n_eq0, n_lt0, n_le0, n_0lt, n_0le, n_eqm, m_eqn, n_ltm, n_and, n_or, n_xor, n_shl, n_shr, tb1, tb0, bP_1, bP_0, bP_n0, ix_n, inb_n, u_eq, u_eqm, ma_k M, ma_k1 M, ma_k2 M, ma_k3 M, ma_k12 M, ma_k13 M, ma_k14 M, ma_r2 M, ma_r3 M, ma_r4 M, ma_r5 M, ma_r6 M, ma_r7 M, sl, C.1.2.2, n_andn]
        refine hP.1 _ _ s_Co_canLeaveOpen_81 _ _ _ _ _ ?_
        simp (maxSteps := 1000000) (disch := omega) only [g_Co_canLeaveOpen_81, slk, List.map_cons, List.map_nil, List.sum_cons, List.sum_nil, vc_i, vc_r, vc_n, vc_l, vc_o, Nat.add_zero, kO_e, kA_e, hdO_a, eq_self, blk, stp, lg, ls0, lk, ls1, ls2, kI_i, kL_l, kR_r, kR_n, kR_o, s1I_i, s2I_i, s1L_l, s2L_l, s1R_r, s1R_n, s1R_o, s1A_a, cmpc, popn, swt, rf_s, rf_n, cat_i, cat_r, cat_n, cat_l, true_and, and_true, List.length_cons, List.length_nil, Nat.zero_add, Int.reduceToNat, Nat.reduceAdd, Nat.reduceDiv, Nat.reduceMod, Nat.reduceMul, Nat.reduceSub, Nat.reduceLeDiff, Nat.reduceLT, Nat.reduceEqDiff, ↓reduceIte, r_gr_wi, r_gl_wi, r_gk_wi, r_gn_wi, r_wi_eq, r_wi_ne, r_wi_nj, r_gi_wr, r_gl_wr, r_gk_wr, r_gn_wr, r_gr_wa, r_gl_wa, r_gk_wa, r_gn_wa, aa_e, as_e, al_e, u_lt, u_le, u_gt, u_ge, u_lt0, u_le0, u_gt0, u_ge0, Classical.not_not, not_true_eq_false, not_false_eq_true, oi_n, oi_m, n_dec, nI_add, pk_mul, n_sub, n_eq, n_le, n_lt, n_eq0, n_lt0, n_le0, n_0lt, n_0le, n_eqm, m_eqn, n_ltm, n_and, n_or, n_xor, n_shl, n_shr, tb1, tb0, bP_1, bP_0, bP_n0, ix_n, inb_n, u_eq, u_eqm, ma_k M, ma_k1 M, ma_k2 M, ma_k3 M, ma_k12 M, ma_k13 M, ma_k14 M, ma_r2 M, ma_r3 M, ma_r4 M, ma_r5 M, ma_r6 M, ma_r7 M, sl, C.1.2.2, n_andn]
        refine ⟨fun z => by first | exact z.elim | exact absurd z (by decide), fun _ => ?_⟩
        refine hP.1 _ _ s_Co_canLeaveOpen_88 _ _ _ _ _ ?_
        simp (maxSteps := 1000000) (disch := omega) only [g_Co_canLeaveOpen_88, slk, List.map_cons, List.map_nil, List.sum_cons, List.sum_nil, vc_i, vc_r, vc_n, vc_l, vc_o, Nat.add_zero, kO_e, kA_e, hdO_a, eq_self, blk, stp, lg, ls0, lk, ls1, ls2, kI_i, kL_l, kR_r, kR_n, kR_o, s1I_i, s2I_i, s1L_l, s2L_l, s1R_r, s1R_n, s1R_o, s1A_a, cmpc, popn, swt, rf_s, rf_n, cat_i, cat_r, cat_n, cat_l, true_and, and_true, List.length_cons, List.length_nil, Nat.zero_add, Int.reduceToNat, Nat.reduceAdd, Nat.reduceDiv, Nat.reduceMod, Nat.reduceMul, Nat.reduceSub, Nat.reduceLeDiff, Nat.reduceLT, Nat.reduceEqDiff, ↓reduceIte, r_gr_wi, r_gl_wi, r_gk_wi, r_gn_wi, r_wi_eq, r_wi_ne, r_wi_nj, r_gi_wr, r_gl_wr, r_gk_wr, r_gn_wr, r_gr_wa, r_gl_wa, r_gk_wa, r_gn_wa, aa_e, as_e, al_e, u_lt, u_le, u_gt, u_ge, u_lt0, u_le0, u_gt0, u_ge0, Classical.not_not, not_true_eq_false, not_false_eq_true, oi_n, oi_m, n_dec, nI_add, pk_mul, n_sub, n_eq, n_le, n_lt, n_eq0, n_lt0, n_le0, n_0lt, n_0le, n_eqm, m_eqn, n_ltm, n_and, n_or, n_xor, n_shl, n_shr, tb1, tb0, bP_1, bP_0, bP_n0, ix_n, inb_n, u_eq, u_eqm, k59 L, f59_0 L, k21 L, ma_k M, ma_k1 M, ma_k2 M, ma_k3 M, ma_k12 M, ma_k13 M, ma_k14 M, ma_r2 M, ma_r3 M, ma_r4 M, ma_r5 M, ma_r6 M, ma_r7 M, sl, C.1.2.2, n_andn]
        refine wc (c_Ma_unable W M V al) ⟨by omega, by omega⟩ ?_
        simp (maxSteps := 1000000) (disch := omega) only [slk, List.map_cons, List.map_nil, List.sum_cons, List.sum_nil, vc_i, vc_r, vc_n, vc_l, vc_o, Nat.add_zero, kO_e, kA_e, hdO_a, eq_self, blk, stp, lg, ls0, lk, ls1, ls2, kI_i, kL_l, kR_r, kR_n, kR_o, s1I_i, s2I_i, s1L_l, s2L_l, s1R_r, s1R_n, s1R_o, s1A_a, cmpc, popn, swt, rf_s, rf_n, cat_i, cat_r, cat_n, cat_l, true_and, and_true, List.length_cons, List.length_nil, Nat.zero_add, Int.reduceToNat, Nat.reduceAdd, Nat.reduceDiv, Nat.reduceMod, Nat.reduceMul, Nat.reduceSub, Nat.reduceLeDiff, Nat.reduceLT, Nat.reduceEqDiff, ↓reduceIte, r_gr_wi, r_gl_wi, r_gk_wi, r_gn_wi, r_wi_eq, r_wi_ne, r_wi_nj, r_gi_wr, r_gl_wr, r_gk_wr, r_gn_wr, r_gr_wa, r_gl_wa, r_gk_wa, r_gn_wa, aa_e, as_e, al_e, u_lt, u_le, u_gt, u_ge, u_lt0, u_le0, u_gt0, u_ge0, Classical.not_not, not_true_eq_false, not_false_eq_true, oi_n, oi_m, n_dec, nI_add, pk_mul, n_sub, n_eq, n_le, n_lt, n_eq0, n_lt0, n_le0, n_0lt, n_0le, n_eqm, m_eqn, n_ltm, n_and, n_or, n_xor, n_shl, n_shr, tb1, tb0, bP_1, bP_0, bP_n0, ix_n, inb_n, u_eq, u_eqm, k59 L, f59_0 L, k21 L, ma_k M, ma_k1 M, ma_k2 M, ma_k3 M, ma_k12 M, ma_k13 M, ma_k14 M, ma_r2 M, ma_r3 M, ma_r4 M, ma_r5 M, ma_r6 M, ma_r7 M, sl, C.1.2.2, n_andn]
        refine ⟨fun q3 => nx (fun z => q3 z.2) _ _, fun q3 => ?_⟩
        refine hP.1 _ _ s_Co_canLeaveOpen_109 _ _ _ _ _ ?_
        simp (maxSteps := 1000000) (disch := omega) only [g_Co_canLeaveOpen_109, slk, List.map_cons, List.map_nil, List.sum_cons, List.sum_nil, vc_i, vc_r, vc_n, vc_l, vc_o, Nat.add_zero, kO_e, kA_e, hdO_a, eq_self, blk, stp, lg, ls0, lk, ls1, ls2, kI_i, kL_l, kR_r, kR_n, kR_o, s1I_i, s2I_i, s1L_l, s2L_l, s1R_r, s1R_n, s1R_o, s1A_a, cmpc, popn, swt, rf_s, rf_n, cat_i, cat_r, cat_n, cat_l, true_and, and_true, List.length_cons, List.length_nil, Nat.zero_add, Int.reduceToNat, Nat.reduceAdd, Nat.reduceDiv, Nat.reduceMod, Nat.reduceMul, Nat.reduceSub, Nat.reduceLeDiff, Nat.reduceLT, Nat.reduceEqDiff, ↓reduceIte, r_gr_wi, r_gl_wi, r_gk_wi, r_gn_wi, r_wi_eq, r_wi_ne, r_wi_nj, r_gi_wr, r_gl_wr, r_gk_wr, r_gn_wr, r_gr_wa, r_gl_wa, r_gk_wa, r_gn_wa, aa_e, as_e, al_e, u_lt, u_le, u_gt, u_ge, u_lt0, u_le0, u_gt0, u_ge0, Classical.not_not, not_true_eq_false, not_false_eq_true, oi_n, oi_m, n_dec, nI_add, pk_mul, n_sub, n_eq, n_le, n_lt, n_eq0, n_lt0, n_le0, n_0lt, n_0le, n_eqm, m_eqn, n_ltm, n_and, n_or, n_xor, n_shl, n_shr, tb1, tb0, bP_1, bP_0, bP_n0, ix_n, inb_n, u_eq, u_eqm, ma_k M, ma_k1 M, ma_k2 M, ma_k3 M, ma_k12 M, ma_k13 M, ma_k14 M, ma_r2 M, ma_r3 M, ma_r4 M, ma_r5 M, ma_r6 M, ma_r7 M, sl, C.1.2.2, n_andn]
        exact lfT r_Co_canLeaveOpen (op.mp ⟨k, ⟨pr, (by first | exact q2 | exact Classical.not_not.mp q2)⟩, (by first | exact q3 | exact Classical.not_not.mp q3)⟩) rfl
  have loop1 : ∀ n k, k + n = s 112 m → P 5 [some (.ref 59), some (.ref b), some (.int (nI w)), some (.int (nI (opB w k))), some (.int (nI k)), none, none] [] h2 0 0 := by
    intro n
    induction n using Nat.strongRecOn with
    | _ n ih =>
      intro k hk
      have ok := ol k (by omega)
      refine hP.1 _ _ s_Co_canLeaveOpen_5 _ _ _ _ _ ?_
      simp (maxSteps := 1000000) (disch := omega) only [g_Co_canLeaveOpen_5, slk, List.map_cons, List.map_nil, List.sum_cons, List.sum_nil, vc_i, vc_r, vc_n, vc_l, vc_o, Nat.add_zero, kO_e, kA_e, hdO_a, eq_self, blk, stp, lg, ls0, lk, ls1, ls2, kI_i, kL_l, kR_r, kR_n, kR_o, s1I_i, s2I_i, s1L_l, s2L_l, s1R_r, s1R_n, s1R_o, s1A_a, cmpc, popn, swt, rf_s, rf_n, cat_i, cat_r, cat_n, cat_l, true_and, and_true, List.length_cons, List.length_nil, Nat.zero_add, Int.reduceToNat, Nat.reduceAdd, Nat.reduceDiv, Nat.reduceMod, Nat.reduceMul, Nat.reduceSub, Nat.reduceLeDiff, Nat.reduceLT, Nat.reduceEqDiff, ↓reduceIte, r_gr_wi, r_gl_wi, r_gk_wi, r_gn_wi, r_wi_eq, r_wi_ne, r_wi_nj, r_gi_wr, r_gl_wr, r_gk_wr, r_gn_wr, r_gr_wa, r_gl_wa, r_gk_wa, r_gn_wa, aa_e, as_e, al_e, u_lt, u_le, u_gt, u_ge, u_lt0, u_le0, u_gt0, u_ge0, Classical.not_not, not_true_eq_false, not_false_eq_true, oi_n, oi_m, n_dec, nI_add, pk_mul, n_sub, n_eq, n_le, n_lt, n_eq0, n_lt0, n_le0, n_0lt, n_0le, n_eqm, m_eqn, n_ltm, n_and, n_or, n_xor, n_shl, n_shr, tb1, tb0, bP_1, bP_0, bP_n0, ix_n, inb_n, u_eq, u_eqm, ma_k M, V.1.1]
      refine ⟨fun hc => ?_, fun hc => ?_⟩
      · have e1 : k = s 112 m := by omega
        subst e1
        refine hP.1 _ _ s_Co_canLeaveOpen_39 _ _ _ _ _ ?_
        simp (maxSteps := 1000000) (disch := omega) only [g_Co_canLeaveOpen_39, slk, List.map_cons, List.map_nil, List.sum_cons, List.sum_nil, vc_i, vc_r, vc_n, vc_l, vc_o, Nat.add_zero, kO_e, kA_e, hdO_a, eq_self, blk, stp, lg, ls0, lk, ls1, ls2, kI_i, kL_l, kR_r, kR_n, kR_o, s1I_i, s2I_i, s1L_l, s2L_l, s1R_r, s1R_n, s1R_o, s1A_a, cmpc, popn, swt, rf_s, rf_n, cat_i, cat_r, cat_n, cat_l, true_and, and_true, List.length_cons, List.length_nil, Nat.zero_add, Int.reduceToNat, Nat.reduceAdd, Nat.reduceDiv, Nat.reduceMod, Nat.reduceMul, Nat.reduceSub, Nat.reduceLeDiff, Nat.reduceLT, Nat.reduceEqDiff, ↓reduceIte, r_gr_wi, r_gl_wi, r_gk_wi, r_gn_wi, r_wi_eq, r_wi_ne, r_wi_nj, r_gi_wr, r_gl_wr, r_gk_wr, r_gn_wr, r_gr_wa, r_gl_wa, r_gk_wa, r_gn_wa, aa_e, as_e, al_e, u_lt, u_le, u_gt, u_ge, u_lt0, u_le0, u_gt0, u_ge0, Classical.not_not, not_true_eq_false, not_false_eq_true, oi_n, oi_m, n_dec, nI_add, pk_mul, n_sub, n_eq, n_le, n_lt, n_eq0, n_lt0, n_le0, n_0lt, n_0le, n_eqm, m_eqn, n_ltm, n_and, n_or, n_xor, n_shl, n_shr, tb1, tb0, bP_1, bP_0, bP_n0, ix_n, inb_n, u_eq, u_eqm, ma_k M, V.1.1]
        exact loop2 _ 0 _ _ (Nat.zero_add _) (fun x hx => absurd hx (Nat.not_lt_zero _))
      · refine hP.1 _ _ s_Co_canLeaveOpen_14 _ _ _ _ _ ?_
        simp (maxSteps := 1000000) (disch := omega) only [g_Co_canLeaveOpen_14, slk, List.map_cons, List.map_nil, List.sum_cons, List.sum_nil, vc_i, vc_r, vc_n, vc_l, vc_o, Nat.add_zero, kO_e, kA_e, hdO_a, eq_self, blk, stp, lg, ls0, lk, ls1, ls2, kI_i, kL_l, kR_r, kR_n, kR_o, s1I_i, s2I_i, s1L_l, s2L_l, s1R_r, s1R_n, s1R_o, s1A_a, cmpc, popn, swt, rf_s, rf_n, cat_i, cat_r, cat_n, cat_l, true_and, and_true, List.length_cons, List.length_nil, Nat.zero_add, Int.reduceToNat, Nat.reduceAdd, Nat.reduceDiv, Nat.reduceMod, Nat.reduceMul, Nat.reduceSub, Nat.reduceLeDiff, Nat.reduceLT, Nat.reduceEqDiff, ↓reduceIte, r_gr_wi, r_gl_wi, r_gk_wi, r_gn_wi, r_wi_eq, r_wi_ne, r_wi_nj, r_gi_wr, r_gl_wr, r_gk_wr, r_gn_wr, r_gr_wa, r_gl_wa, r_gk_wa, r_gn_wa, aa_e, as_e, al_e, u_lt, u_le, u_gt, u_ge, u_lt0, u_le0, u_gt0, u_ge0, Classical.not_not, not_true_eq_false, not_false_eq_true, oi_n, oi_m, n_dec, nI_add, pk_mul, n_sub, n_eq, n_le, n_lt, n_eq0, n_lt0, n_le0, n_0lt, n_0le, n_eqm, m_eqn, n_ltm, n_and, n_or, n_xor, n_shl, n_shr, tb1, tb0, bP_1, bP_0, bP_n0, ix_n, inb_n, u_eq, u_eqm, ma_k M, V.1.1]
        refine wc (c_T_slot (p := k) (w := 0)) ⟨by omega, by omega⟩ ?_
        simp (maxSteps := 1000000) (disch := omega) only [slk, List.map_cons, List.map_nil, List.sum_cons, List.sum_nil, vc_i, vc_r, vc_n, vc_l, vc_o, Nat.add_zero, kO_e, kA_e, hdO_a, eq_self, blk, stp, lg, ls0, lk, ls1, ls2, kI_i, kL_l, kR_r, kR_n, kR_o, s1I_i, s2I_i, s1L_l, s2L_l, s1R_r, s1R_n, s1R_o, s1A_a, cmpc, popn, swt, rf_s, rf_n, cat_i, cat_r, cat_n, cat_l, true_and, and_true, List.length_cons, List.length_nil, Nat.zero_add, Int.reduceToNat, Nat.reduceAdd, Nat.reduceDiv, Nat.reduceMod, Nat.reduceMul, Nat.reduceSub, Nat.reduceLeDiff, Nat.reduceLT, Nat.reduceEqDiff, ↓reduceIte, r_gr_wi, r_gl_wi, r_gk_wi, r_gn_wi, r_wi_eq, r_wi_ne, r_wi_nj, r_gi_wr, r_gl_wr, r_gk_wr, r_gn_wr, r_gr_wa, r_gl_wa, r_gk_wa, r_gn_wa, aa_e, as_e, al_e, u_lt, u_le, u_gt, u_ge, u_lt0, u_le0, u_gt0, u_ge0, Classical.not_not, not_true_eq_false, not_false_eq_true, oi_n, oi_m, n_dec, nI_add, pk_mul, n_sub, n_eq, n_le, n_lt, n_eq0, n_lt0, n_le0, n_0lt, n_0le, n_eqm, m_eqn, n_ltm, n_and, n_or, n_xor, n_shl, n_shr, tb1, tb0, bP_1, bP_0, bP_n0, ix_n, inb_n, u_eq, u_eqm, ma_k M, V.1.1]
        have e2 : opB w (k + 1) = opB w k ||| (w >>> k &&& 1) * 15 <<< (4 * k) := rfl
        rw [← e2]
        exact ih (n - 1) (by omega) (k + 1) (by omega)
  refine hP.1 _ _ s_Co_canLeaveOpen_0 _ _ _ _ _ ?_
  simp (maxSteps := 1000000) (disch := omega) only [g_Co_canLeaveOpen_0, slk, List.map_cons, List.map_nil, List.sum_cons, List.sum_nil, vc_i, vc_r, vc_n, vc_l, vc_o, Nat.add_zero, kO_e, kA_e, hdO_a, eq_self, blk, stp, lg, ls0, lk, ls1, ls2, kI_i, kL_l, kR_r, kR_n, kR_o, s1I_i, s2I_i, s1L_l, s2L_l, s1R_r, s1R_n, s1R_o, s1A_a, cmpc, popn, swt, rf_s, rf_n, cat_i, cat_r, cat_n, cat_l, true_and, and_true, List.length_cons, List.length_nil, Nat.zero_add, Int.reduceToNat, Nat.reduceAdd, Nat.reduceDiv, Nat.reduceMod, Nat.reduceMul, Nat.reduceSub, Nat.reduceLeDiff, Nat.reduceLT, Nat.reduceEqDiff, ↓reduceIte, r_gr_wi, r_gl_wi, r_gk_wi, r_gn_wi, r_wi_eq, r_wi_ne, r_wi_nj, r_gi_wr, r_gl_wr, r_gk_wr, r_gn_wr, r_gr_wa, r_gl_wa, r_gk_wa, r_gn_wa, aa_e, as_e, al_e, u_lt, u_le, u_gt, u_ge, u_lt0, u_le0, u_gt0, u_ge0, Classical.not_not, not_true_eq_false, not_false_eq_true, oi_n, oi_m, n_dec, nI_add, pk_mul, n_sub, n_eq, n_le, n_lt, n_eq0, n_lt0, n_le0, n_0lt, n_0le, n_eqm, m_eqn, n_ltm, n_and, n_or, n_xor, n_shl, n_shr, tb1, tb0, bP_1, bP_0, bP_n0, ix_n, inb_n, u_eq, u_eqm]
  exact loop1 _ 0 (Nat.zero_add _)
theorem c_Co_fewestOpen (W : RH h s) (g0 : s 107 22 = 0) {h2 : AH} (L : Lay h2) (C : CC h2 s) (hm : m < s 107 19) (M : MA h2 b (s 112 m)) (V : MV h2 s m b) : Mz (d + 4) 162 [.ref 59, .ref b] h2 0 0 (Rt (oN (opnR s m)) h2) := by
  have b4 := rs_p W hm
  have ev := ev_le W hm
  refine mz_in (l := [some (.ref 59), some (.ref b), none, none]) mk_Co_fewestOpen n_Co_fewestOpen rfl l_Co_fewestOpen rfl (Nat.le_of_ble_eq_true rfl) fun P hP => ?_
  have loop : ∀ n k, k + n = 1 <<< s 112 m → P 4 [some (.ref 59), some (.ref b), some (.int (oN (mnG (fun w => opP s m 0 (adN (evN s m) w)) (fun a b => kyN a < kyN b) k))), some (.int (nI k))] [] h2 0 0 := by
    intro n
    induction n using Nat.strongRecOn with
    | _ n ih =>
      intro k hk
      have bl : ∀ q, mnG (fun w => opP s m 0 (adN (evN s m) w)) (fun a b => kyN a < kyN b) k = some q → q < 32 := fun q e => by
        have := (mnG_lt e).1
        omega
      refine hP.1 _ _ s_Co_fewestOpen_4 _ _ _ _ _ ?_
      simp (maxSteps := 1000000) (disch := omega) only [g_Co_fewestOpen_4, slk, List.map_cons, List.map_nil, List.sum_cons, List.sum_nil, vc_i, vc_r, vc_n, vc_l, vc_o, Nat.add_zero, kO_e, kA_e, hdO_a, eq_self, blk, stp, lg, ls0, lk, ls1, ls2, kI_i, kL_l, kR_r, kR_n, kR_o, s1I_i, s2I_i, s1L_l, s2L_l, s1R_r, s1R_n, s1R_o, s1A_a, cmpc, popn, swt, rf_s, rf_n, cat_i, cat_r, cat_n, cat_l, true_and, and_true, List.length_cons, List.length_nil, Nat.zero_add, Int.reduceToNat, Nat.reduceAdd, Nat.reduceDiv, Nat.reduceMod, Nat.reduceMul, Nat.reduceSub, Nat.reduceLeDiff, Nat.reduceLT, Nat.reduceEqDiff, ↓reduceIte, r_gr_wi, r_gl_wi, r_gk_wi, r_gn_wi, r_wi_eq, r_wi_ne, r_wi_nj, r_gi_wr, r_gl_wr, r_gk_wr, r_gn_wr, r_gr_wa, r_gl_wa, r_gk_wa, r_gn_wa, aa_e, as_e, al_e, u_lt, u_le, u_gt, u_ge, u_lt0, u_le0, u_gt0, u_ge0, Classical.not_not, not_true_eq_false, not_false_eq_true, oi_n, oi_m, n_dec, nI_add, pk_mul, n_sub, n_eq, n_le, n_lt, n_eq0, n_lt0, n_le0, n_0lt, n_0le, n_eqm, m_eqn, n_ltm, n_and, n_or, n_xor, n_shl, n_shr, tb1, tb0, bP_1, bP_0, bP_n0, ix_n, inb_n, u_eq, u_eqm, ma_k M, V.1.1]
      refine ⟨fun hc => ?_, fun hc => ?_⟩
      · have e1 : k = 1 <<< s 112 m := by omega
        rw [e1]
        refine hP.1 _ _ s_Co_fewestOpen_44 _ _ _ _ _ ?_
        simp (maxSteps := 1000000) (disch := omega) only [g_Co_fewestOpen_44, slk, List.map_cons, List.map_nil, List.sum_cons, List.sum_nil, vc_i, vc_r, vc_n, vc_l, vc_o, Nat.add_zero, kO_e, kA_e, hdO_a, eq_self, blk, stp, lg, ls0, lk, ls1, ls2, kI_i, kL_l, kR_r, kR_n, kR_o, s1I_i, s2I_i, s1L_l, s2L_l, s1R_r, s1R_n, s1R_o, s1A_a, cmpc, popn, swt, rf_s, rf_n, cat_i, cat_r, cat_n, cat_l, true_and, and_true, List.length_cons, List.length_nil, Nat.zero_add, Int.reduceToNat, Nat.reduceAdd, Nat.reduceDiv, Nat.reduceMod, Nat.reduceMul, Nat.reduceSub, Nat.reduceLeDiff, Nat.reduceLT, Nat.reduceEqDiff, ↓reduceIte, r_gr_wi, r_gl_wi, r_gk_wi, r_gn_wi, r_wi_eq, r_wi_ne, r_wi_nj, r_gi_wr, r_gl_wr, r_gk_wr, r_gn_wr, r_gr_wa, r_gl_wa, r_gk_wa, r_gn_wa, aa_e, as_e, al_e, u_lt, u_le, u_gt, u_ge, u_lt0, u_le0, u_gt0, u_ge0, Classical.not_not, not_true_eq_false, not_false_eq_true, oi_n, oi_m, n_dec, nI_add, pk_mul, n_sub, n_eq, n_le, n_lt, n_eq0, n_lt0, n_le0, n_0lt, n_0le, n_eqm, m_eqn, n_ltm, n_and, n_or, n_xor, n_shl, n_shr, tb1, tb0, bP_1, bP_0, bP_n0, ix_n, inb_n, u_eq, u_eqm, ma_k M, V.1.1]
        exact lfI r_Co_fewestOpen rfl rfl
      · have hk2 : k < 1 <<< s 112 m := by omega
        have nx : ∀ v2 : Int32, v2 = oN (mnG (fun w => opP s m 0 (adN (evN s m) w)) (fun a b => kyN a < kyN b) (k + 1)) → P 38 [some (.ref 59), some (.ref b), some (.int (v2)), some (.int (nI k))] [] h2 0 0 := by
          intro v2 e2
          refine hP.1 _ _ s_Co_fewestOpen_38 _ _ _ _ _ ?_
          simp (maxSteps := 1000000) (disch := omega) only [g_Co_fewestOpen_38, slk, List.map_cons, List.map_nil, List.sum_cons, List.sum_nil, vc_i, vc_r, vc_n, vc_l, vc_o, Nat.add_zero, kO_e, kA_e, hdO_a, eq_self, blk, stp, lg, ls0, lk, ls1, ls2, kI_i, kL_l, kR_r, kR_n, kR_o, s1I_i, s2I_i, s1L_l, s2L_l, s1R_r, s1R_n, s1R_o, s1A_a, cmpc, popn, swt, rf_s, rf_n, cat_i, cat_r, cat_n, cat_l, true_and, and_true, List.length_cons, List.length_nil, Nat.zero_add, Int.reduceToNat, Nat.reduceAdd, Nat.reduceDiv, Nat.reduceMod, Nat.reduceMul, Nat.reduceSub, Nat.reduceLeDiff, Nat.reduceLT, Nat.reduceEqDiff, ↓reduceIte, r_gr_wi, r_gl_wi, r_gk_wi, r_gn_wi, r_wi_eq, r_wi_ne, r_wi_nj, r_gi_wr, r_gl_wr, r_gk_wr, r_gn_wr, r_gr_wa, r_gl_wa, r_gk_wa, r_gn_wa, aa_e, as_e, al_e, u_lt, u_le, u_gt, u_ge, u_lt0, u_le0, u_gt0, u_ge0, Classical.not_not, not_true_eq_false, not_false_eq_true, oi_n, oi_m, n_dec, nI_add, pk_mul, n_sub, n_eq, n_le, n_lt, n_eq0, n_lt0, n_le0, n_0lt, n_0le, n_eqm, m_eqn, n_ltm, n_and, n_or, n_xor, n_shl, n_shr, tb1, tb0, bP_1, bP_0, bP_n0, ix_n, inb_n, u_eq, u_eqm, ma_k M, V.1.1]
          rw [e2]
          exact ih (n - 1) (by omega) (k + 1) (by omega)
        have no : ¬ (opP s m 0 (adN (evN s m) k) ∧ ∀ q, mnG (fun w => opP s m 0 (adN (evN s m) w)) (fun a b => kyN a < kyN b) k = some q → kyN k < kyN q) → mnG (fun w => opP s m 0 (adN (evN s m) w)) (fun a b => kyN a < kyN b) (k + 1) = mnG (fun w => opP s m 0 (adN (evN s m) w)) (fun a b => kyN a < kyN b) k := fun z => mnG_f z
        have ye : (opP s m 0 (adN (evN s m) k) ∧ ∀ q, mnG (fun w => opP s m 0 (adN (evN s m) w)) (fun a b => kyN a < kyN b) k = some q → kyN k < kyN q) → mnG (fun w => opP s m 0 (adN (evN s m) w)) (fun a b => kyN a < kyN b) (k + 1) = some k := fun z => mnG_t z
        have om := oN_m1 (o := mnG (fun w => opP s m 0 (adN (evN s m) w)) (fun a b => kyN a < kyN b) k) (fun q e => by have := bl q e; omega)
        have try1 : (∀ q, mnG (fun w => opP s m 0 (adN (evN s m) w)) (fun a b => kyN a < kyN b) k = some q → kyN k < kyN q) → P 27 [some (.ref 59), some (.ref b), some (.int (oN (mnG (fun w => opP s m 0 (adN (evN s m) w)) (fun a b => kyN a < kyN b) k))), some (.int (nI k))] [] h2 0 0 := by
          intro z
          refine hP.1 _ _ s_Co_fewestOpen_27 _ _ _ _ _ ?_
          simp (maxSteps := 1000000) (disch := omega) only [g_Co_fewestOpen_27, slk, List.map_cons, List.map_nil, List.sum_cons, List.sum_nil, vc_i, vc_r, vc_n, vc_l, vc_o, Nat.add_zero, kO_e, kA_e, hdO_a, eq_self, blk, stp, lg, ls0, lk, ls1, ls2, kI_i, kL_l, kR_r, kR_n, kR_o, s1I_i, s2I_i, s1L_l, s2L_l, s1R_r, s1R_n, s1R_o, s1A_a, cmpc, popn, swt, rf_s, rf_n, cat_i, cat_r, cat_n, cat_l, true_and, and_true, List.length_cons, List.length_nil, Nat.zero_add, Int.reduceToNat, Nat.reduceAdd, Nat.reduceDiv, Nat.reduceMod, Nat.reduceMul, Nat.reduceSub, Nat.reduceLeDiff, Nat.reduceLT, Nat.reduceEqDiff, ↓reduceIte, r_gr_wi, r_gl_wi, r_gk_wi, r_gn_wi, r_wi_eq, r_wi_ne, r_wi_nj, r_gi_wr, r_gl_wr, r_gk_wr, r_gn_wr, r_gr_wa, r_gl_wa, r_gk_wa, r_gn_wa, aa_e, as_e, al_e, u_lt, u_le, u_gt, u_ge, u_lt0, u_le0, u_gt0, u_ge0, Classical.not_not, not_true_eq_false, not_false_eq_true, oi_n, oi_m, n_dec, nI_add, pk_mul, n_sub, n_eq, n_le, n_lt, n_eq0, n_lt0, n_le0, n_0lt, n_0le, n_eqm, m_eqn, n_ltm, n_and, n_or, n_xor, n_shl, n_shr, tb1, tb0, bP_1, bP_0, bP_n0, ix_n, inb_n, u_eq, u_eqm, k59 L, ma_k M, V.1.1]
          refine wc (c_Co_canLeaveOpen W g0 L C hm M V (w := k) (by omega)) ⟨by omega, by omega⟩ ?_
          simp (maxSteps := 1000000) (disch := omega) only [slk, List.map_cons, List.map_nil, List.sum_cons, List.sum_nil, vc_i, vc_r, vc_n, vc_l, vc_o, Nat.add_zero, kO_e, kA_e, hdO_a, eq_self, blk, stp, lg, ls0, lk, ls1, ls2, kI_i, kL_l, kR_r, kR_n, kR_o, s1I_i, s2I_i, s1L_l, s2L_l, s1R_r, s1R_n, s1R_o, s1A_a, cmpc, popn, swt, rf_s, rf_n, cat_i, cat_r, cat_n, cat_l, true_and, and_true, List.length_cons, List.length_nil, Nat.zero_add, Int.reduceToNat, Nat.reduceAdd, Nat.reduceDiv, Nat.reduceMod, Nat.reduceMul, Nat.reduceSub, Nat.reduceLeDiff, Nat.reduceLT, Nat.reduceEqDiff, ↓reduceIte, r_gr_wi, r_gl_wi, r_gk_wi, r_gn_wi, r_wi_eq, r_wi_ne, r_wi_nj, r_gi_wr, r_gl_wr, r_gk_wr, r_gn_wr, r_gr_wa, r_gl_wa, r_gk_wa, r_gn_wa, aa_e, as_e, al_e, u_lt, u_le, u_gt, u_ge, u_lt0, u_le0, u_gt0, u_ge0, Classical.not_not, not_true_eq_false, not_false_eq_true, oi_n, oi_m, n_dec, nI_add, pk_mul, n_sub, n_eq, n_le, n_lt, n_eq0, n_lt0, n_le0, n_0lt, n_0le, n_eqm, m_eqn, n_ltm, n_and, n_or, n_xor, n_shl, n_shr, tb1, tb0, bP_1, bP_0, bP_n0, ix_n, inb_n, u_eq, u_eqm, k59 L, ma_k M, V.1.1]
          refine ⟨fun q => nx _ (by rw [no (fun y => q y.1)]), fun q => ?_⟩
          refine hP.1 _ _ s_Co_fewestOpen_36 _ _ _ _ _ ?_
          simp (maxSteps := 1000000) (disch := omega) only [g_Co_fewestOpen_36, slk, List.map_cons, List.map_nil, List.sum_cons, List.sum_nil, vc_i, vc_r, vc_n, vc_l, vc_o, Nat.add_zero, kO_e, kA_e, hdO_a, eq_self, blk, stp, lg, ls0, lk, ls1, ls2, kI_i, kL_l, kR_r, kR_n, kR_o, s1I_i, s2I_i, s1L_l, s2L_l, s1R_r, s1R_n, s1R_o, s1A_a, cmpc, popn, swt, rf_s, rf_n, cat_i, cat_r, cat_n, cat_l, true_and, and_true, List.length_cons, List.length_nil, Nat.zero_add, Int.reduceToNat, Nat.reduceAdd, Nat.reduceDiv, Nat.reduceMod, Nat.reduceMul, Nat.reduceSub, Nat.reduceLeDiff, Nat.reduceLT, Nat.reduceEqDiff, ↓reduceIte, r_gr_wi, r_gl_wi, r_gk_wi, r_gn_wi, r_wi_eq, r_wi_ne, r_wi_nj, r_gi_wr, r_gl_wr, r_gk_wr, r_gn_wr, r_gr_wa, r_gl_wa, r_gk_wa, r_gn_wa, aa_e, as_e, al_e, u_lt, u_le, u_gt, u_ge, u_lt0, u_le0, u_gt0, u_ge0, Classical.not_not, not_true_eq_false, not_false_eq_true, oi_n, oi_m, n_dec, nI_add, pk_mul, n_sub, n_eq, n_le, n_lt, n_eq0, n_lt0, n_le0, n_0lt, n_0le, n_eqm, m_eqn, n_ltm, n_and, n_or, n_xor, n_shl, n_shr, tb1, tb0, bP_1, bP_0, bP_n0, ix_n, inb_n, u_eq, u_eqm, ma_k M, V.1.1]
          exact nx _ (by rw [ye ⟨(by first | exact q | exact Classical.not_not.mp q), z⟩]; rfl)
        refine hP.1 _ _ s_Co_fewestOpen_14 _ _ _ _ _ ?_
        simp (maxSteps := 1000000) (disch := omega) only [g_Co_fewestOpen_14, slk, List.map_cons, List.map_nil, List.sum_cons, List.sum_nil, vc_i, vc_r, vc_n, vc_l, vc_o, Nat.add_zero, kO_e, kA_e, hdO_a, eq_self, blk, stp, lg, ls0, lk, ls1, ls2, kI_i, kL_l, kR_r, kR_n, kR_o, s1I_i, s2I_i, s1L_l, s2L_l, s1R_r, s1R_n, s1R_o, s1A_a, cmpc, popn, swt, rf_s, rf_n, cat_i, cat_r, cat_n, cat_l, true_and, and_true, List.length_cons, List.length_nil, Nat.zero_add, Int.reduceToNat, Nat.reduceAdd, Nat.reduceDiv, Nat.reduceMod, Nat.reduceMul, Nat.reduceSub, Nat.reduceLeDiff, Nat.reduceLT, Nat.reduceEqDiff, ↓reduceIte, r_gr_wi, r_gl_wi, r_gk_wi, r_gn_wi, r_wi_eq, r_wi_ne, r_wi_nj, r_gi_wr, r_gl_wr, r_gk_wr, r_gn_wr, r_gr_wa, r_gl_wa, r_gk_wa, r_gn_wa, aa_e, as_e, al_e, u_lt, u_le, u_gt, u_ge, u_lt0, u_le0, u_gt0, u_ge0, Classical.not_not, not_true_eq_false, not_false_eq_true, oi_n, oi_m, n_dec, nI_add, pk_mul, n_sub, n_eq, n_le, n_lt, n_eq0, n_lt0, n_le0, n_0lt, n_0le, n_eqm, m_eqn, n_ltm, n_and, n_or, n_xor, n_shl, n_shr, tb1, tb0, bP_1, bP_0, bP_n0, ix_n, inb_n, u_eq, u_eqm, ma_k M, V.1.1, om]
        refine ⟨fun z => try1 (fun q e => by rw [z] at e; cases e), fun z => ?_⟩
        cases eb : mnG (fun w => opP s m 0 (adN (evN s m) w)) (fun a b => kyN a < kyN b) k with
        | none => exact absurd eb z
        | some q2 =>
          have q8 := bl q2 eb
          rw [eb] at try1 no ye
          have e3 : oN (some q2) = nI q2 := rfl
          rw [e3] at try1 ⊢
          refine hP.1 _ _ s_Co_fewestOpen_19 _ _ _ _ _ ?_
          simp (maxSteps := 1000000) (disch := omega) only [g_Co_fewestOpen_19, slk, List.map_cons, List.map_nil, List.sum_cons, List.sum_nil, vc_i, vc_r, vc_n, vc_l, vc_o, Nat.add_zero, kO_e, kA_e, hdO_a, eq_self, blk, stp, lg, ls0, lk, ls1, ls2, kI_i, kL_l, kR_r, kR_n, kR_o, s1I_i, s2I_i, s1L_l, s2L_l, s1R_r, s1R_n, s1R_o, s1A_a, cmpc, popn, swt, rf_s, rf_n, cat_i, cat_r, cat_n, cat_l, true_and, and_true, List.length_cons, List.length_nil, Nat.zero_add, Int.reduceToNat, Nat.reduceAdd, Nat.reduceDiv, Nat.reduceMod, Nat.reduceMul, Nat.reduceSub, Nat.reduceLeDiff, Nat.reduceLT, Nat.reduceEqDiff, ↓reduceIte, r_gr_wi, r_gl_wi, r_gk_wi, r_gn_wi, r_wi_eq, r_wi_ne, r_wi_nj, r_gi_wr, r_gl_wr, r_gk_wr, r_gn_wr, r_gr_wa, r_gl_wa, r_gk_wa, r_gn_wa, aa_e, as_e, al_e, u_lt, u_le, u_gt, u_ge, u_lt0, u_le0, u_gt0, u_ge0, Classical.not_not, not_true_eq_false, not_false_eq_true, oi_n, oi_m, n_dec, nI_add, pk_mul, n_sub, n_eq, n_le, n_lt, n_eq0, n_lt0, n_le0, n_0lt, n_0le, n_eqm, m_eqn, n_ltm, n_and, n_or, n_xor, n_shl, n_shr, tb1, tb0, bP_1, bP_0, bP_n0, ix_n, inb_n, u_eq, u_eqm, ma_k M]
          refine wc (c_T_comesFirst (a := k) (b := q2) (by omega) (by omega)) ⟨by omega, by omega⟩ ?_
          simp (maxSteps := 1000000) (disch := omega) only [slk, List.map_cons, List.map_nil, List.sum_cons, List.sum_nil, vc_i, vc_r, vc_n, vc_l, vc_o, Nat.add_zero, kO_e, kA_e, hdO_a, eq_self, blk, stp, lg, ls0, lk, ls1, ls2, kI_i, kL_l, kR_r, kR_n, kR_o, s1I_i, s2I_i, s1L_l, s2L_l, s1R_r, s1R_n, s1R_o, s1A_a, cmpc, popn, swt, rf_s, rf_n, cat_i, cat_r, cat_n, cat_l, true_and, and_true, List.length_cons, List.length_nil, Nat.zero_add, Int.reduceToNat, Nat.reduceAdd, Nat.reduceDiv, Nat.reduceMod, Nat.reduceMul, Nat.reduceSub, Nat.reduceLeDiff, Nat.reduceLT, Nat.reduceEqDiff, ↓reduceIte, r_gr_wi, r_gl_wi, r_gk_wi, r_gn_wi, r_wi_eq, r_wi_ne, r_wi_nj, r_gi_wr, r_gl_wr, r_gk_wr, r_gn_wr, r_gr_wa, r_gl_wa, r_gk_wa, r_gn_wa, aa_e, as_e, al_e, u_lt, u_le, u_gt, u_ge, u_lt0, u_le0, u_gt0, u_ge0, Classical.not_not, not_true_eq_false, not_false_eq_true, oi_n, oi_m, n_dec, nI_add, pk_mul, n_sub, n_eq, n_le, n_lt, n_eq0, n_lt0, n_le0, n_0lt, n_0le, n_eqm, m_eqn, n_ltm, n_and, n_or, n_xor, n_shl, n_shr, tb1, tb0, bP_1, bP_0, bP_n0, ix_n, inb_n, u_eq, u_eqm, ma_k M]
          refine ⟨fun z2 => nx _ (by rw [no (fun w => z2 (w.2 q2 rfl))]; rfl), fun z2 => ?_⟩
          exact try1 (fun q e => by cases e; first | exact z2 | exact Classical.not_not.mp z2)
  refine hP.1 _ _ s_Co_fewestOpen_0 _ _ _ _ _ ?_
  simp (maxSteps := 1000000) (disch := omega) only [g_Co_fewestOpen_0, slk, List.map_cons, List.map_nil, List.sum_cons, List.sum_nil, vc_i, vc_r, vc_n, vc_l, vc_o, Nat.add_zero, kO_e, kA_e, hdO_a, eq_self, blk, stp, lg, ls0, lk, ls1, ls2, kI_i, kL_l, kR_r, kR_n, kR_o, s1I_i, s2I_i, s1L_l, s2L_l, s1R_r, s1R_n, s1R_o, s1A_a, cmpc, popn, swt, rf_s, rf_n, cat_i, cat_r, cat_n, cat_l, true_and, and_true, List.length_cons, List.length_nil, Nat.zero_add, Int.reduceToNat, Nat.reduceAdd, Nat.reduceDiv, Nat.reduceMod, Nat.reduceMul, Nat.reduceSub, Nat.reduceLeDiff, Nat.reduceLT, Nat.reduceEqDiff, ↓reduceIte, r_gr_wi, r_gl_wi, r_gk_wi, r_gn_wi, r_wi_eq, r_wi_ne, r_wi_nj, r_gi_wr, r_gl_wr, r_gk_wr, r_gn_wr, r_gr_wa, r_gl_wa, r_gk_wa, r_gn_wa, aa_e, as_e, al_e, u_lt, u_le, u_gt, u_ge, u_lt0, u_le0, u_gt0, u_ge0, Classical.not_not, not_true_eq_false, not_false_eq_true, oi_n, oi_m, n_dec, nI_add, pk_mul, n_sub, n_eq, n_le, n_lt, n_eq0, n_lt0, n_le0, n_0lt, n_0le, n_eqm, m_eqn, n_ltm, n_and, n_or, n_xor, n_shl, n_shr, tb1, tb0, bP_1, bP_0, bP_n0, ix_n, inb_n, u_eq, u_eqm, ma_k M, V.1.1]
  exact loop _ 0 (Nat.zero_add _)
end
