/-! ===== the class's council: the fairest ===== -/
def nL (n : Nat) : Int64 := Int64.ofNat n
theorem nL_toInt {n : Nat} (h : n < 9223372036854775808) : (nL n).toInt = (n : Int) := by
  show (BitVec.ofNat 64 n).toInt = _
  rw [BitVec.toInt_eq_toNat_cond, BitVec.toNat_ofNat, Nat.mod_eq_of_lt (by omega), if_pos (by omega)]
theorem nL_0 : Int64.ofInt 0 = nL 0 := by decide
theorem i2l_n : ∀ l, l < 64 → (nI l).toInt64 = nL l := by decide +kernel
theorem sm_6 : (((nI 6).toInt64 &&& 63).toBitVec.smod 64).toNat = 6 := by decide +kernel
theorem nL_key {a l : Nat} (hl : l < 64) : (nL a <<< ((nI 6).toInt64 &&& 63)) ||| (nI l).toInt64 = nL (64 * a + l) := by
  rw [i2l_n l hl]
  apply Int64.toBitVec_inj.1
  rw [Int64.toBitVec_or, Int64.toBitVec_shiftLeft]
  show (BitVec.ofNat 64 a) <<< (((nI 6).toInt64 &&& 63).toBitVec.smod 64).toNat ||| BitVec.ofNat 64 l = BitVec.ofNat 64 (64 * a + l)
  rw [sm_6]
  have e : 64 * a + l = a <<< 6 ||| l := by
    rw [← Nat.shiftLeft_add_eq_or_of_lt (show l < 2 ^ 6 from hl), Nat.shiftLeft_eq]
    omega
  have e1 : BitVec.ofNat 64 a <<< 6 = BitVec.ofNat 64 (a <<< 6) := by
    apply BitVec.eq_of_getLsbD_eq
    intro i hi
    simp only [BitVec.getLsbD_shiftLeft, BitVec.getLsbD_ofNat, Nat.testBit_shiftLeft]
    rcases Nat.lt_or_ge i 6 with q | q
    · simp [hi, q, Nat.not_le.mpr q]
    · simp [hi, Nat.not_lt.mpr q, q]
      omega
  rw [e, e1]
  apply BitVec.eq_of_getLsbD_eq
  intro i hi
  simp [hi]
/-- the losses as the digits of one number -/
def keN (L : List Nat) : Nat → Nat
  | 0 => 0
  | k + 1 => 64 * keN L k + L.getD k 0
theorem keN_lt {L : List Nat} (h : ∀ j, L.getD j 0 < 64) : ∀ k, keN L k < 64 ^ k := by
  intro k
  induction k with
  | zero => exact Nat.lt_succ_self 0
  | succ k ih =>
    have := h k
    show 64 * keN L k + L.getD k 0 < 64 ^ k * 64
    omega
theorem keN_eq {A B : List Nat} (hA : ∀ j, A.getD j 0 < 64) (hB : ∀ j, B.getD j 0 < 64) : ∀ n, keN A n = keN B n ↔ ∀ j, j < n → A.getD j 0 = B.getD j 0 := by
  intro n
  induction n with
  | zero => exact ⟨fun _ j hj => absurd hj (Nat.not_lt_zero _), fun _ => rfl⟩
  | succ n ih =>
    have a := hA n
    have b := hB n
    show 64 * keN A n + A.getD n 0 = 64 * keN B n + B.getD n 0 ↔ _
    constructor
    · intro q j hj
      have e1 : keN A n = keN B n := by omega
      by_cases z : j = n
      · subst z
        omega
      · exact ih.mp e1 j (by omega)
    · intro q
      rw [ih.mpr (fun j hj => q j (by omega)), q n (by omega)]
theorem keN_l {A B : List Nat} (hA : ∀ j, A.getD j 0 < 64) (hB : ∀ j, B.getD j 0 < 64) : ∀ n, keN A n < keN B n ↔ lxI n A B := by
  intro n
  induction n with
  | zero => exact ⟨fun q => absurd q (Nat.lt_irrefl _), fun ⟨k, z, _⟩ => absurd z (Nat.not_lt_zero _)⟩
  | succ n ih =>
    have a := hA n
    have b := hB n
    have e := keN_eq hA hB n
    show 64 * keN A n + A.getD n 0 < 64 * keN B n + B.getD n 0 ↔ _
    constructor
    · intro q
      by_cases z : keN A n < keN B n
      · obtain ⟨k, k1, k2, k3⟩ := ih.mp z
        exact ⟨k, by omega, k2, k3⟩
      · exact ⟨n, by omega, e.mp (by omega), by omega⟩
    · rintro ⟨k, k1, k2, k3⟩
      by_cases z : k = n
      · subst z
        have := e.mpr k2
        omega
      · have := ih.mpr ⟨k, by omega, k2, k3⟩
        omega
section
variable {h : AH} {s : St} {d m b : Nat}
def PLf (h : AH) (s : St) (m x : Nat) (r : Option (Option Value)) (h' : AH) : Prop := r = some (some (.long (nL (keN (lsL s m x) (sn s))))) ∧ Fp (fun a => a = 60) h h'
theorem lsK_len (s : St) (m x k : Nat) : (lsK s m x k).length = k := isL_len _ _ _
theorem c_Co_lossesFalling (W : RH h s) (I : PI s) {h2 : AH} (L : Lay h2) (C : CC h2 s) (hm : m < s 107 19) (M : MA h2 b (s 112 m)) (V : MV h2 s m b) {x : Nat} (hx : isPr s m x) : Mz (d + 3) 160 [.ref 59, .ref b, .int (nI (slN (s 112 m) (s 113 m) x))] h2 0 0 (PLf h2 s m x) := by
  have b4 := rs_p W hm
  have b6 := sn_le W
  have bb := ma_b M
  have slb := sl_lt b4.2.1 (s 113 m) x
  have le := fun k j => lsK_le W (m := m) (x := x) (k := k) hm j
  have L0 := L
  refine mz_in (l := [some (.ref 59), some (.ref b), some (.int (nI (slN (s 112 m) (s 113 m) x))), none, none, none]) mk_Co_lossesFalling n_Co_lossesFalling rfl l_Co_lossesFalling rfl (Nat.le_of_ble_eq_true rfl) fun P hP => ?_
  -- the digits
  have digits : ∀ H, Fp (fun a => a = 60) h2 H → (∀ j, j < sn s → gi H 60 j = nI ((lsL s m x).getD j 0)) → ∀ n k, k + n = sn s → P 93 [some (.ref 59), some (.ref b), some (.int (nI (slN (s 112 m) (s 113 m) x))), some (.long (nL (keN (lsL s m x) k))), none, some (.int (nI k))] [] H 0 0 := by
    intro H F hA n
    have L := F.lay L0
    have C1 := F.cc C (fun a q => by have q2 : a = 60 := q; omega)
    induction n using Nat.strongRecOn with
    | _ n ih =>
      intro k hk
      refine hP.1 _ _ s_Co_lossesFalling_93 _ _ _ _ _ ?_
      simp (maxSteps := 1000000) (disch := omega) only [g_Co_lossesFalling_93, slk, List.map_cons, List.map_nil, List.sum_cons, List.sum_nil, vc_i, vc_r, vc_n, vc_l, vc_o, Nat.add_zero, kO_e, kA_e, hdO_a, eq_self, blk, stp, lg, ls0, lk, ls1, ls2, kI_i, kL_l, kR_r, kR_n, kR_o, s1I_i, s2I_i, s1L_l, s2L_l, s1R_r, s1R_n, s1R_o, s1A_a, cmpc, popn, swt, rf_s, rf_n, cat_i, cat_r, cat_n, cat_l, true_and, and_true, List.length_cons, List.length_nil, Nat.zero_add, Int.reduceToNat, Nat.reduceAdd, Nat.reduceDiv, Nat.reduceMod, Nat.reduceMul, Nat.reduceSub, Nat.reduceLeDiff, Nat.reduceLT, Nat.reduceEqDiff, ↓reduceIte, r_gr_wi, r_gl_wi, r_gk_wi, r_gn_wi, r_wi_eq, r_wi_ne, r_wi_nj, r_gi_wr, r_gl_wr, r_gk_wr, r_gn_wr, r_gr_wa, r_gl_wa, r_gk_wa, r_gn_wa, aa_e, as_e, al_e, u_lt, u_le, u_gt, u_ge, u_lt0, u_le0, u_gt0, u_ge0, Classical.not_not, not_true_eq_false, not_false_eq_true, oi_n, oi_m, n_dec, nI_add, pk_mul, n_sub, n_eq, n_le, n_lt, n_eq0, n_lt0, n_le0, n_0lt, n_0le, n_eqm, m_eqn, n_ltm, n_and, n_or, n_xor, n_shl, n_shr, tb1, tb0, bP_1, bP_0, bP_n0, ix_n, inb_n, u_eq, u_eqm, k59 L, f59_0 L, k21 L, C1.1.2.1]
      refine ⟨fun hc => ?_, fun hc => ?_⟩
      · have e1 : k = sn s := by omega
        subst e1
        refine hP.1 _ _ s_Co_lossesFalling_125 _ _ _ _ _ ?_
        simp (maxSteps := 1000000) (disch := omega) only [g_Co_lossesFalling_125, slk, List.map_cons, List.map_nil, List.sum_cons, List.sum_nil, vc_i, vc_r, vc_n, vc_l, vc_o, Nat.add_zero, kO_e, kA_e, hdO_a, eq_self, blk, stp, lg, ls0, lk, ls1, ls2, kI_i, kL_l, kR_r, kR_n, kR_o, s1I_i, s2I_i, s1L_l, s2L_l, s1R_r, s1R_n, s1R_o, s1A_a, cmpc, popn, swt, rf_s, rf_n, cat_i, cat_r, cat_n, cat_l, true_and, and_true, List.length_cons, List.length_nil, Nat.zero_add, Int.reduceToNat, Nat.reduceAdd, Nat.reduceDiv, Nat.reduceMod, Nat.reduceMul, Nat.reduceSub, Nat.reduceLeDiff, Nat.reduceLT, Nat.reduceEqDiff, ↓reduceIte, r_gr_wi, r_gl_wi, r_gk_wi, r_gn_wi, r_wi_eq, r_wi_ne, r_wi_nj, r_gi_wr, r_gl_wr, r_gk_wr, r_gn_wr, r_gr_wa, r_gl_wa, r_gk_wa, r_gn_wa, aa_e, as_e, al_e, u_lt, u_le, u_gt, u_ge, u_lt0, u_le0, u_gt0, u_ge0, Classical.not_not, not_true_eq_false, not_false_eq_true, oi_n, oi_m, n_dec, nI_add, pk_mul, n_sub, n_eq, n_le, n_lt, n_eq0, n_lt0, n_le0, n_0lt, n_0le, n_eqm, m_eqn, n_ltm, n_and, n_or, n_xor, n_shl, n_shr, tb1, tb0, bP_1, bP_0, bP_n0, ix_n, inb_n, u_eq, u_eqm, C1.1.2.1]
        rw [r_Co_lossesFalling]
        exact ⟨trivial, rfl, F⟩
      · have hk2 : k < sn s := by omega
        have l45 := le (sn s) k
        have e9 : lsK s m x (sn s) = lsL s m x := rfl
        rw [e9] at l45
        refine hP.1 _ _ s_Co_lossesFalling_105 _ _ _ _ _ ?_
        simp (maxSteps := 1000000) (disch := omega) only [g_Co_lossesFalling_105, slk, List.map_cons, List.map_nil, List.sum_cons, List.sum_nil, vc_i, vc_r, vc_n, vc_l, vc_o, Nat.add_zero, kO_e, kA_e, hdO_a, eq_self, blk, stp, lg, ls0, lk, ls1, ls2, kI_i, kL_l, kR_r, kR_n, kR_o, s1I_i, s2I_i, s1L_l, s2L_l, s1R_r, s1R_n, s1R_o, s1A_a, cmpc, popn, swt, rf_s, rf_n, cat_i, cat_r, cat_n, cat_l, true_and, and_true, List.length_cons, List.length_nil, Nat.zero_add, Int.reduceToNat, Nat.reduceAdd, Nat.reduceDiv, Nat.reduceMod, Nat.reduceMul, Nat.reduceSub, Nat.reduceLeDiff, Nat.reduceLT, Nat.reduceEqDiff, ↓reduceIte, r_gr_wi, r_gl_wi, r_gk_wi, r_gn_wi, r_wi_eq, r_wi_ne, r_wi_nj, r_gi_wr, r_gl_wr, r_gk_wr, r_gn_wr, r_gr_wa, r_gl_wa, r_gk_wa, r_gn_wa, aa_e, as_e, al_e, u_lt, u_le, u_gt, u_ge, u_lt0, u_le0, u_gt0, u_ge0, Classical.not_not, not_true_eq_false, not_false_eq_true, oi_n, oi_m, n_dec, nI_add, pk_mul, n_sub, n_eq, n_le, n_lt, n_eq0, n_lt0, n_le0, n_0lt, n_0le, n_eqm, m_eqn, n_ltm, n_and, n_or, n_xor, n_shl, n_shr, tb1, tb0, bP_1, bP_0, bP_n0, ix_n, inb_n, u_eq, u_eqm, k59 L, f59_1 L, k60 L, C1.1.2.1, hA k hk2]
        rw [nL_key (by omega)]
        exact ih (n - 1) (by omega) (k + 1) (by omega)
  -- one loss is put in
  have outer : ∀ n k H (x4 x5 : Option Value), k + n = sn s → Fp (fun a => a = 60) h2 H → (∀ j, j < k → gi H 60 j = nI ((lsK s m x k).getD j 0)) → P 2 [some (.ref 59), some (.ref b), some (.int (nI (slN (s 112 m) (s 113 m) x))), some (.int (nI k)), x4, x5] [] H 0 0 := by
    intro n
    induction n using Nat.strongRecOn with
    | _ n ih =>
      intro k H x4 x5 hk F hA
      have L := F.lay L0
      have C1 := F.cc C (fun a q => by have q2 : a = 60 := q; omega)
      have M1 := F.ma M
      have V1 := F.mv V (fun a q => by have q2 : a = 60 := q; omega)
      refine hP.1 _ _ s_Co_lossesFalling_2 _ _ _ _ _ ?_
      simp (maxSteps := 1000000) (disch := omega) only [g_Co_lossesFalling_2, slk, List.map_cons, List.map_nil, List.sum_cons, List.sum_nil, vc_i, vc_r, vc_n, vc_l, vc_o, Nat.add_zero, kO_e, kA_e, hdO_a, eq_self, blk, stp, lg, ls0, lk, ls1, ls2, kI_i, kL_l, kR_r, kR_n, kR_o, s1I_i, s2I_i, s1L_l, s2L_l, s1R_r, s1R_n, s1R_o, s1A_a, cmpc, popn, swt, rf_s, rf_n, cat_i, cat_r, cat_n, cat_l, true_and, and_true, List.length_cons, List.length_nil, Nat.zero_add, Int.reduceToNat, Nat.reduceAdd, Nat.reduceDiv, Nat.reduceMod, Nat.reduceMul, Nat.reduceSub, Nat.reduceLeDiff, Nat.reduceLT, Nat.reduceEqDiff, ↓reduceIte, r_gr_wi, r_gl_wi, r_gk_wi, r_gn_wi, r_wi_eq, r_wi_ne, r_wi_nj, r_gi_wr, r_gl_wr, r_gk_wr, r_gn_wr, r_gr_wa, r_gl_wa, r_gk_wa, r_gn_wa, aa_e, as_e, al_e, u_lt, u_le, u_gt, u_ge, u_lt0, u_le0, u_gt0, u_ge0, Classical.not_not, not_true_eq_false, not_false_eq_true, oi_n, oi_m, n_dec, nI_add, pk_mul, n_sub, n_eq, n_le, n_lt, n_eq0, n_lt0, n_le0, n_0lt, n_0le, n_eqm, m_eqn, n_ltm, n_and, n_or, n_xor, n_shl, n_shr, tb1, tb0, bP_1, bP_0, bP_n0, ix_n, inb_n, u_eq, u_eqm, k59 L, f59_0 L, k21 L, C1.1.2.1]
      refine ⟨fun hc => ?_, fun hc => ?_⟩
      · have e1 : k = sn s := by omega
        subst e1
        refine hP.1 _ _ s_Co_lossesFalling_88 _ _ _ _ _ ?_
        simp (maxSteps := 1000000) (disch := omega) only [g_Co_lossesFalling_88, slk, List.map_cons, List.map_nil, List.sum_cons, List.sum_nil, vc_i, vc_r, vc_n, vc_l, vc_o, Nat.add_zero, kO_e, kA_e, hdO_a, eq_self, blk, stp, lg, ls0, lk, ls1, ls2, kI_i, kL_l, kR_r, kR_n, kR_o, s1I_i, s2I_i, s1L_l, s2L_l, s1R_r, s1R_n, s1R_o, s1A_a, cmpc, popn, swt, rf_s, rf_n, cat_i, cat_r, cat_n, cat_l, true_and, and_true, List.length_cons, List.length_nil, Nat.zero_add, Int.reduceToNat, Nat.reduceAdd, Nat.reduceDiv, Nat.reduceMod, Nat.reduceMul, Nat.reduceSub, Nat.reduceLeDiff, Nat.reduceLT, Nat.reduceEqDiff, ↓reduceIte, r_gr_wi, r_gl_wi, r_gk_wi, r_gn_wi, r_wi_eq, r_wi_ne, r_wi_nj, r_gi_wr, r_gl_wr, r_gk_wr, r_gn_wr, r_gr_wa, r_gl_wa, r_gk_wa, r_gn_wa, aa_e, as_e, al_e, u_lt, u_le, u_gt, u_ge, u_lt0, u_le0, u_gt0, u_ge0, Classical.not_not, not_true_eq_false, not_false_eq_true, oi_n, oi_m, n_dec, nI_add, pk_mul, n_sub, n_eq, n_le, n_lt, n_eq0, n_lt0, n_le0, n_0lt, n_0le, n_eqm, m_eqn, n_ltm, n_and, n_or, n_xor, n_shl, n_shr, tb1, tb0, bP_1, bP_0, bP_n0, ix_n, inb_n, u_eq, u_eqm, C1.1.2.1]
        rw [nL_0]
        exact digits H F hA _ 0 (Nat.zero_add _)
      · have hk2 : k < sn s := by omega
        have so := seat_of W hk2
        have s8 := sd_lt W hk2
        have ll := lossN_le W hm (e := sd s k) (x := x)
        have lek := lsK_len s m x k
        refine hP.1 _ _ s_Co_lossesFalling_13 _ _ _ _ _ ?_
        simp (maxSteps := 1000000) (disch := omega) only [g_Co_lossesFalling_13, slk, List.map_cons, List.map_nil, List.sum_cons, List.sum_nil, vc_i, vc_r, vc_n, vc_l, vc_o, Nat.add_zero, kO_e, kA_e, hdO_a, eq_self, blk, stp, lg, ls0, lk, ls1, ls2, kI_i, kL_l, kR_r, kR_n, kR_o, s1I_i, s2I_i, s1L_l, s2L_l, s1R_r, s1R_n, s1R_o, s1A_a, cmpc, popn, swt, rf_s, rf_n, cat_i, cat_r, cat_n, cat_l, true_and, and_true, List.length_cons, List.length_nil, Nat.zero_add, Int.reduceToNat, Nat.reduceAdd, Nat.reduceDiv, Nat.reduceMod, Nat.reduceMul, Nat.reduceSub, Nat.reduceLeDiff, Nat.reduceLT, Nat.reduceEqDiff, ↓reduceIte, r_gr_wi, r_gl_wi, r_gk_wi, r_gn_wi, r_wi_eq, r_wi_ne, r_wi_nj, r_gi_wr, r_gl_wr, r_gk_wr, r_gn_wr, r_gr_wa, r_gl_wa, r_gk_wa, r_gn_wa, aa_e, as_e, al_e, u_lt, u_le, u_gt, u_ge, u_lt0, u_le0, u_gt0, u_ge0, Classical.not_not, not_true_eq_false, not_false_eq_true, oi_n, oi_m, n_dec, nI_add, pk_mul, n_sub, n_eq, n_le, n_lt, n_eq0, n_lt0, n_le0, n_0lt, n_0le, n_eqm, m_eqn, n_ltm, n_and, n_or, n_xor, n_shl, n_shr, tb1, tb0, bP_1, bP_0, bP_n0, ix_n, inb_n, u_eq, u_eqm, k59 L, f59_0 L, k21 L, f21_3 L, k33 L, C1.1.2.1, C1.2.2.2.1 k hk2, ma_k M1]
        refine wc (c_Ma_lossOf W M1 V1 hm s8 slb) ⟨by omega, by omega⟩ ?_
        simp (maxSteps := 1000000) (disch := omega) only [slk, List.map_cons, List.map_nil, List.sum_cons, List.sum_nil, vc_i, vc_r, vc_n, vc_l, vc_o, Nat.add_zero, kO_e, kA_e, hdO_a, eq_self, blk, stp, lg, ls0, lk, ls1, ls2, kI_i, kL_l, kR_r, kR_n, kR_o, s1I_i, s2I_i, s1L_l, s2L_l, s1R_r, s1R_n, s1R_o, s1A_a, cmpc, popn, swt, rf_s, rf_n, cat_i, cat_r, cat_n, cat_l, true_and, and_true, List.length_cons, List.length_nil, Nat.zero_add, Int.reduceToNat, Nat.reduceAdd, Nat.reduceDiv, Nat.reduceMod, Nat.reduceMul, Nat.reduceSub, Nat.reduceLeDiff, Nat.reduceLT, Nat.reduceEqDiff, ↓reduceIte, r_gr_wi, r_gl_wi, r_gk_wi, r_gn_wi, r_wi_eq, r_wi_ne, r_wi_nj, r_gi_wr, r_gl_wr, r_gk_wr, r_gn_wr, r_gr_wa, r_gl_wa, r_gk_wa, r_gn_wa, aa_e, as_e, al_e, u_lt, u_le, u_gt, u_ge, u_lt0, u_le0, u_gt0, u_ge0, Classical.not_not, not_true_eq_false, not_false_eq_true, oi_n, oi_m, n_dec, nI_add, pk_mul, n_sub, n_eq, n_le, n_lt, n_eq0, n_lt0, n_le0, n_0lt, n_0le, n_eqm, m_eqn, n_ltm, n_and, n_or, n_xor, n_shl, n_shr, tb1, tb0, bP_1, bP_0, bP_n0, ix_n, inb_n, u_eq, u_eqm, k59 L, f59_0 L, k21 L, f21_3 L, k33 L, C1.1.2.1, C1.2.2.2.1 k hk2, ma_k M1]
        rw [la_loss W I so.1 hm hx]
        have inner : ∀ p H, p ≤ k → Fp (fun a => a = 60) h2 H → (∀ j, j < p → gi H 60 j = nI ((lsK s m x k).getD j 0)) → (∀ j, p < j → j ≤ k → gi H 60 j = nI ((lsK s m x k).getD (j - 1) 0)) → (∀ j, p ≤ j → j < k → (lsK s m x k).getD j 0 < lossN s (sd s k) m x) → P 32 [some (.ref 59), some (.ref b), some (.int (nI (slN (s 112 m) (s 113 m) x))), some (.int (nI k)), some (.int (nI (lossN s (sd s k) m x))), some (.int (nI p))] [] H 0 0 := by
          intro p
          induction p with
          | zero =>
            intro H hp F hL hR hB
            have L := F.lay L0
            have ex : P 73 [some (.ref 59), some (.ref b), some (.int (nI (slN (s 112 m) (s 113 m) x))), some (.int (nI k)), some (.int (nI (lossN s (sd s k) m x))), some (.int (nI 0))] [] H 0 0 := by
              refine hP.1 _ _ s_Co_lossesFalling_73 _ _ _ _ _ ?_
              simp (maxSteps := 1000000) (disch := omega) only [g_Co_lossesFalling_73, slk, List.map_cons, List.map_nil, List.sum_cons, List.sum_nil, vc_i, vc_r, vc_n, vc_l, vc_o, Nat.add_zero, kO_e, kA_e, hdO_a, eq_self, blk, stp, lg, ls0, lk, ls1, ls2, kI_i, kL_l, kR_r, kR_n, kR_o, s1I_i, s2I_i, s1L_l, s2L_l, s1R_r, s1R_n, s1R_o, s1A_a, cmpc, popn, swt, rf_s, rf_n, cat_i, cat_r, cat_n, cat_l, true_and, and_true, List.length_cons, List.length_nil, Nat.zero_add, Int.reduceToNat, Nat.reduceAdd, Nat.reduceDiv, Nat.reduceMod, Nat.reduceMul, Nat.reduceSub, Nat.reduceLeDiff, Nat.reduceLT, Nat.reduceEqDiff, ↓reduceIte, r_gr_wi, r_gl_wi, r_gk_wi, r_gn_wi, r_wi_eq, r_wi_ne, r_wi_nj, r_gi_wr, r_gl_wr, r_gk_wr, r_gn_wr, r_gr_wa, r_gl_wa, r_gk_wa, r_gn_wa, aa_e, as_e, al_e, u_lt, u_le, u_gt, u_ge, u_lt0, u_le0, u_gt0, u_ge0, Classical.not_not, not_true_eq_false, not_false_eq_true, oi_n, oi_m, n_dec, nI_add, pk_mul, n_sub, n_eq, n_le, n_lt, n_eq0, n_lt0, n_le0, n_0lt, n_0le, n_eqm, m_eqn, n_ltm, n_and, n_or, n_xor, n_shl, n_shr, tb1, tb0, bP_1, bP_0, bP_n0, ix_n, inb_n, u_eq, u_eqm, k59 L, f59_1 L, k60 L, C1.1.2.1, C1.2.2.2.1 k hk2, ma_k M1]
              refine ih (n - 1) (by omega) (k + 1) _ _ _ (by omega) (F.wi rfl _ _) (fun j hj => ?_)
              have e1 : lsK s m x (k + 1) = (lsK s m x k).take 0 ++ lossN s (sd s k) m x :: (lsK s m x k).drop 0 := insW_eq (c := fun a => decide (a < lossN s (sd s k) m x)) (p := 0) (L := lsK s m x k) (by omega) (fun j _ h2 => decide_eq_true (hB j (by omega) (by omega))) (Or.inl rfl)
              rw [e1, ins_get (by omega) (by omega), r_gi_wi, if_pos rfl]
              by_cases q : j = 0
              · subst q
                rfl
              · rw [if_neg q, if_neg (by omega), if_neg q]
                exact hR j (by omega) (by omega)
            refine hP.1 _ _ s_Co_lossesFalling_32 _ _ _ _ _ ?_
            simp (maxSteps := 1000000) (disch := omega) only [g_Co_lossesFalling_32, slk, List.map_cons, List.map_nil, List.sum_cons, List.sum_nil, vc_i, vc_r, vc_n, vc_l, vc_o, Nat.add_zero, kO_e, kA_e, hdO_a, eq_self, blk, stp, lg, ls0, lk, ls1, ls2, kI_i, kL_l, kR_r, kR_n, kR_o, s1I_i, s2I_i, s1L_l, s2L_l, s1R_r, s1R_n, s1R_o, s1A_a, cmpc, popn, swt, rf_s, rf_n, cat_i, cat_r, cat_n, cat_l, true_and, and_true, List.length_cons, List.length_nil, Nat.zero_add, Int.reduceToNat, Nat.reduceAdd, Nat.reduceDiv, Nat.reduceMod, Nat.reduceMul, Nat.reduceSub, Nat.reduceLeDiff, Nat.reduceLT, Nat.reduceEqDiff, ↓reduceIte, r_gr_wi, r_gl_wi, r_gk_wi, r_gn_wi, r_wi_eq, r_wi_ne, r_wi_nj, r_gi_wr, r_gl_wr, r_gk_wr, r_gn_wr, r_gr_wa, r_gl_wa, r_gk_wa, r_gn_wa, aa_e, as_e, al_e, u_lt, u_le, u_gt, u_ge, u_lt0, u_le0, u_gt0, u_ge0, Classical.not_not, not_true_eq_false, not_false_eq_true, oi_n, oi_m, n_dec, nI_add, pk_mul, n_sub, n_eq, n_le, n_lt, n_eq0, n_lt0, n_le0, n_0lt, n_0le, n_eqm, m_eqn, n_ltm, n_and, n_or, n_xor, n_shl, n_shr, tb1, tb0, bP_1, bP_0, bP_n0, ix_n, inb_n, u_eq, u_eqm, C1.1.2.1]
            refine ⟨fun _ => ex, fun z => by first | exact z.elim | exact absurd trivial z | (exfalso; omega)⟩
          | succ p ihp =>
            intro H hp F hL hR hB
            have L := F.lay L0
            have lp := le k p
            have ex : ¬ (lsK s m x k).getD p 0 < lossN s (sd s k) m x → P 73 [some (.ref 59), some (.ref b), some (.int (nI (slN (s 112 m) (s 113 m) x))), some (.int (nI k)), some (.int (nI (lossN s (sd s k) m x))), some (.int (nI (p + 1)))] [] H 0 0 := by
              intro a
              refine hP.1 _ _ s_Co_lossesFalling_73 _ _ _ _ _ ?_
              simp (maxSteps := 1000000) (disch := omega) only [g_Co_lossesFalling_73, slk, List.map_cons, List.map_nil, List.sum_cons, List.sum_nil, vc_i, vc_r, vc_n, vc_l, vc_o, Nat.add_zero, kO_e, kA_e, hdO_a, eq_self, blk, stp, lg, ls0, lk, ls1, ls2, kI_i, kL_l, kR_r, kR_n, kR_o, s1I_i, s2I_i, s1L_l, s2L_l, s1R_r, s1R_n, s1R_o, s1A_a, cmpc, popn, swt, rf_s, rf_n, cat_i, cat_r, cat_n, cat_l, true_and, and_true, List.length_cons, List.length_nil, Nat.zero_add, Int.reduceToNat, Nat.reduceAdd, Nat.reduceDiv, Nat.reduceMod, Nat.reduceMul, Nat.reduceSub, Nat.reduceLeDiff, Nat.reduceLT, Nat.reduceEqDiff, ↓reduceIte, r_gr_wi, r_gl_wi, r_gk_wi, r_gn_wi, r_wi_eq, r_wi_ne, r_wi_nj, r_gi_wr, r_gl_wr, r_gk_wr, r_gn_wr, r_gr_wa, r_gl_wa, r_gk_wa, r_gn_wa, aa_e, as_e, al_e, u_lt, u_le, u_gt, u_ge, u_lt0, u_le0, u_gt0, u_ge0, Classical.not_not, not_true_eq_false, not_false_eq_true, oi_n, oi_m, n_dec, nI_add, pk_mul, n_sub, n_eq, n_le, n_lt, n_eq0, n_lt0, n_le0, n_0lt, n_0le, n_eqm, m_eqn, n_ltm, n_and, n_or, n_xor, n_shl, n_shr, tb1, tb0, bP_1, bP_0, bP_n0, ix_n, inb_n, u_eq, u_eqm, k59 L, f59_1 L, k60 L, C1.1.2.1, C1.2.2.2.1 k hk2, ma_k M1]
              refine ih (n - 1) (by omega) (k + 1) _ _ _ (by omega) (F.wi rfl _ _) (fun j hj => ?_)
              have e1 : lsK s m x (k + 1) = (lsK s m x k).take (p + 1) ++ lossN s (sd s k) m x :: (lsK s m x k).drop (p + 1) := insW_eq (c := fun a => decide (a < lossN s (sd s k) m x)) (p := p + 1) (L := lsK s m x k) (by omega) (fun j _ h2 => decide_eq_true (hB j (by omega) (by omega))) (Or.inr (decide_eq_false a))
              rw [e1, ins_get (by omega) (by omega), r_gi_wi, if_pos rfl]
              by_cases q : j = p + 1
              · subst q
                rw [if_pos rfl, if_neg (by omega), if_pos rfl]
              · rw [if_neg q]
                by_cases e2 : j < p + 1
                · rw [if_pos e2]
                  exact hL j e2
                · rw [if_neg e2, if_neg q]
                  exact hR j (by omega) (by omega)
            refine hP.1 _ _ s_Co_lossesFalling_32 _ _ _ _ _ ?_
            simp (maxSteps := 1000000) (disch := omega) only [g_Co_lossesFalling_32, slk, List.map_cons, List.map_nil, List.sum_cons, List.sum_nil, vc_i, vc_r, vc_n, vc_l, vc_o, Nat.add_zero, kO_e, kA_e, hdO_a, eq_self, blk, stp, lg, ls0, lk, ls1, ls2, kI_i, kL_l, kR_r, kR_n, kR_o, s1I_i, s2I_i, s1L_l, s2L_l, s1R_r, s1R_n, s1R_o, s1A_a, cmpc, popn, swt, rf_s, rf_n, cat_i, cat_r, cat_n, cat_l, true_and, and_true, List.length_cons, List.length_nil, Nat.zero_add, Int.reduceToNat, Nat.reduceAdd, Nat.reduceDiv, Nat.reduceMod, Nat.reduceMul, Nat.reduceSub, Nat.reduceLeDiff, Nat.reduceLT, Nat.reduceEqDiff, ↓reduceIte, r_gr_wi, r_gl_wi, r_gk_wi, r_gn_wi, r_wi_eq, r_wi_ne, r_wi_nj, r_gi_wr, r_gl_wr, r_gk_wr, r_gn_wr, r_gr_wa, r_gl_wa, r_gk_wa, r_gn_wa, aa_e, as_e, al_e, u_lt, u_le, u_gt, u_ge, u_lt0, u_le0, u_gt0, u_ge0, Classical.not_not, not_true_eq_false, not_false_eq_true, oi_n, oi_m, n_dec, nI_add, pk_mul, n_sub, n_eq, n_le, n_lt, n_eq0, n_lt0, n_le0, n_0lt, n_0le, n_eqm, m_eqn, n_ltm, n_and, n_or, n_xor, n_shl, n_shr, tb1, tb0, bP_1, bP_0, bP_n0, ix_n, inb_n, u_eq, u_eqm, hL p (by omega), Nat.add_sub_cancel]
            refine ⟨fun z => by first | exact z.elim | (exfalso; omega), fun _ => ?_⟩
            refine hP.1 _ _ s_Co_lossesFalling_37 _ _ _ _ _ ?_
            simp (maxSteps := 1000000) (disch := omega) only [g_Co_lossesFalling_37, slk, List.map_cons, List.map_nil, List.sum_cons, List.sum_nil, vc_i, vc_r, vc_n, vc_l, vc_o, Nat.add_zero, kO_e, kA_e, hdO_a, eq_self, blk, stp, lg, ls0, lk, ls1, ls2, kI_i, kL_l, kR_r, kR_n, kR_o, s1I_i, s2I_i, s1L_l, s2L_l, s1R_r, s1R_n, s1R_o, s1A_a, cmpc, popn, swt, rf_s, rf_n, cat_i, cat_r, cat_n, cat_l, true_and, and_true, List.length_cons, List.length_nil, Nat.zero_add, Int.reduceToNat, Nat.reduceAdd, Nat.reduceDiv, Nat.reduceMod, Nat.reduceMul, Nat.reduceSub, Nat.reduceLeDiff, Nat.reduceLT, Nat.reduceEqDiff, ↓reduceIte, r_gr_wi, r_gl_wi, r_gk_wi, r_gn_wi, r_wi_eq, r_wi_ne, r_wi_nj, r_gi_wr, r_gl_wr, r_gk_wr, r_gn_wr, r_gr_wa, r_gl_wa, r_gk_wa, r_gn_wa, aa_e, as_e, al_e, u_lt, u_le, u_gt, u_ge, u_lt0, u_le0, u_gt0, u_ge0, Classical.not_not, not_true_eq_false, not_false_eq_true, oi_n, oi_m, n_dec, nI_add, pk_mul, n_sub, n_eq, n_le, n_lt, n_eq0, n_lt0, n_le0, n_0lt, n_0le, n_eqm, m_eqn, n_ltm, n_and, n_or, n_xor, n_shl, n_shr, tb1, tb0, bP_1, bP_0, bP_n0, ix_n, inb_n, u_eq, u_eqm, k59 L, f59_1 L, k60 L, hL p (by omega), Nat.add_sub_cancel]
            refine ⟨fun z => ex (by omega), fun z => ?_⟩
            refine hP.1 _ _ s_Co_lossesFalling_51 _ _ _ _ _ ?_
            simp (maxSteps := 1000000) (disch := omega) only [g_Co_lossesFalling_51, slk, List.map_cons, List.map_nil, List.sum_cons, List.sum_nil, vc_i, vc_r, vc_n, vc_l, vc_o, Nat.add_zero, kO_e, kA_e, hdO_a, eq_self, blk, stp, lg, ls0, lk, ls1, ls2, kI_i, kL_l, kR_r, kR_n, kR_o, s1I_i, s2I_i, s1L_l, s2L_l, s1R_r, s1R_n, s1R_o, s1A_a, cmpc, popn, swt, rf_s, rf_n, cat_i, cat_r, cat_n, cat_l, true_and, and_true, List.length_cons, List.length_nil, Nat.zero_add, Int.reduceToNat, Nat.reduceAdd, Nat.reduceDiv, Nat.reduceMod, Nat.reduceMul, Nat.reduceSub, Nat.reduceLeDiff, Nat.reduceLT, Nat.reduceEqDiff, ↓reduceIte, r_gr_wi, r_gl_wi, r_gk_wi, r_gn_wi, r_wi_eq, r_wi_ne, r_wi_nj, r_gi_wr, r_gl_wr, r_gk_wr, r_gn_wr, r_gr_wa, r_gl_wa, r_gk_wa, r_gn_wa, aa_e, as_e, al_e, u_lt, u_le, u_gt, u_ge, u_lt0, u_le0, u_gt0, u_ge0, Classical.not_not, not_true_eq_false, not_false_eq_true, oi_n, oi_m, n_dec, nI_add, pk_mul, n_sub, n_eq, n_le, n_lt, n_eq0, n_lt0, n_le0, n_0lt, n_0le, n_eqm, m_eqn, n_ltm, n_and, n_or, n_xor, n_shl, n_shr, tb1, tb0, bP_1, bP_0, bP_n0, ix_n, inb_n, u_eq, u_eqm, k59 L, f59_1 L, k60 L, hL p (by omega), Nat.add_sub_cancel]
            refine ihp _ (by omega) (F.wi rfl _ _) ?_ ?_ ?_
            · intro j hj
              rw [r_gi_wi, if_pos rfl, if_neg (by omega)]
              exact hL j (by omega)
            · intro j h1 h2
              rw [r_gi_wi, if_pos rfl]
              by_cases q : j = p + 1
              · subst q
                rw [if_pos rfl]
                rfl
              · rw [if_neg q]
                exact hR j (by omega) (by omega)
            · intro j h1 h2
              by_cases q : j = p
              · subst q
                omega
              · exact hB j (by omega) h2
        exact inner k H (Nat.le_refl _) F hA (fun j h1 h2 => absurd h1 (by omega)) (fun j h1 h2 => absurd h1 (by omega))
  refine hP.1 _ _ s_Co_lossesFalling_0 _ _ _ _ _ ?_
  simp (maxSteps := 1000000) (disch := omega) only [g_Co_lossesFalling_0, slk, List.map_cons, List.map_nil, List.sum_cons, List.sum_nil, vc_i, vc_r, vc_n, vc_l, vc_o, Nat.add_zero, kO_e, kA_e, hdO_a, eq_self, blk, stp, lg, ls0, lk, ls1, ls2, kI_i, kL_l, kR_r, kR_n, kR_o, s1I_i, s2I_i, s1L_l, s2L_l, s1R_r, s1R_n, s1R_o, s1A_a, cmpc, popn, swt, rf_s, rf_n, cat_i, cat_r, cat_n, cat_l, true_and, and_true, List.length_cons, List.length_nil, Nat.zero_add, Int.reduceToNat, Nat.reduceAdd, Nat.reduceDiv, Nat.reduceMod, Nat.reduceMul, Nat.reduceSub, Nat.reduceLeDiff, Nat.reduceLT, Nat.reduceEqDiff, ↓reduceIte, r_gr_wi, r_gl_wi, r_gk_wi, r_gn_wi, r_wi_eq, r_wi_ne, r_wi_nj, r_gi_wr, r_gl_wr, r_gk_wr, r_gn_wr, r_gr_wa, r_gl_wa, r_gk_wa, r_gn_wa, aa_e, as_e, al_e, u_lt, u_le, u_gt, u_ge, u_lt0, u_le0, u_gt0, u_ge0, Classical.not_not, not_true_eq_false, not_false_eq_true, oi_n, oi_m, n_dec, nI_add, pk_mul, n_sub, n_eq, n_le, n_lt, n_eq0, n_lt0, n_le0, n_0lt, n_0le, n_eqm, m_eqn, n_ltm, n_and, n_or, n_xor, n_shl, n_shr, tb1, tb0, bP_1, bP_0, bP_n0, ix_n, inb_n, u_eq, u_eqm]
  exact outer _ 0 h2 none none (Nat.zero_add _) (Fp.refl _ _) (fun j hj => absurd hj (Nat.not_lt_zero _))
def PFr (h : AH) (v : Int32) (r : Option (Option Value)) (h' : AH) : Prop := r = some (some (.int v)) ∧ Fp (fun a => a = 60) h h'
theorem c_Co_fairest (W : RH h s) (I : PI s) (g0 : s 107 22 = 0) {h2 : AH} (L : Lay h2) (C : CC h2 s) (hm : m < s 107 19) (M : MA h2 b (s 112 m)) (V : MV h2 s m b) : Mz (d + 4) 159 [.ref 59, .ref b] h2 0 0 (PFr h2 (oN (fairR s m))) := by
  have b4 := rs_p W hm
  have b5 := sh_1024 b4.2.1
  have b6 := sn_le W
  have bb := ma_b M
  have L0 := L
  have l64 : ∀ x j, (lsL s m x).getD j 0 < 64 := fun x j => by
    have := lsK_le W (m := m) (x := x) (k := sn s) hm j
    have e9 : lsK s m x (sn s) = lsL s m x := rfl
    rw [e9] at this
    omega
  have kb : ∀ x, keN (lsL s m x) (sn s) < 9223372036854775808 := fun x => by
    have h1 := keN_lt (l64 x) (sn s)
    have h2 : 64 ^ sn s ≤ 64 ^ 8 := Nat.pow_le_pow_right (by omega) b6
    have h3 : (64 : Nat) ^ 8 < 9223372036854775808 := by decide
    omega
  refine mz_in (l := [some (.ref 59), some (.ref b), none, none, none, none, none, none]) mk_Co_fairest n_Co_fairest rfl l_Co_fairest rfl (Nat.le_of_ble_eq_true rfl) fun P hP => ?_
  have loop : ∀ n k H (x6 x7 : Option Value), k + n = 1 <<< (2 * s 112 m) → Fp (fun a => a = 60) h2 H → P 7 [some (.ref 59), some (.ref b), some (.int (oN (mnG (fun x => isPr s m x ∧ abP s m x) (fun a b => lxI (sn s) (lsL s m a) (lsL s m b)) k))), some (.long (nL (o0 (fun x => keN (lsL s m x) (sn s)) (mnG (fun x => isPr s m x ∧ abP s m x) (fun a b => lxI (sn s) (lsL s m a) (lsL s m b)) k)))), none, some (.int (nI k)), x6, x7] [] H 0 0 := by
    intro n
    induction n using Nat.strongRecOn with
    | _ n ih =>
      intro k H x6 x7 hk F
      have L := F.lay L0
      have C1 := F.cc C (fun a q => by have q2 : a = 60 := q; omega)
      have M := F.ma M
      have V1 := F.mv V (fun a q => by have q2 : a = 60 := q; omega)
      have bl : ∀ q, mnG (fun x => isPr s m x ∧ abP s m x) (fun a b => lxI (sn s) (lsL s m a) (lsL s m b)) k = some q → q < 1024 := fun q e => by
        have := (mnG_lt e).1
        omega
      refine hP.1 _ _ s_Co_fairest_7 _ _ _ _ _ ?_
      simp (maxSteps := 1000000) (disch := omega) only [g_Co_fairest_7, slk, List.map_cons, List.map_nil, List.sum_cons, List.sum_nil, vc_i, vc_r, vc_n, vc_l, vc_o, Nat.add_zero, kO_e, kA_e, hdO_a, eq_self, blk, stp, lg, ls0, lk, ls1, ls2, kI_i, kL_l, kR_r, kR_n, kR_o, s1I_i, s2I_i, s1L_l, s2L_l, s1R_r, s1R_n, s1R_o, s1A_a, cmpc, popn, swt, rf_s, rf_n, cat_i, cat_r, cat_n, cat_l, true_and, and_true, List.length_cons, List.length_nil, Nat.zero_add, Int.reduceToNat, Nat.reduceAdd, Nat.reduceDiv, Nat.reduceMod, Nat.reduceMul, Nat.reduceSub, Nat.reduceLeDiff, Nat.reduceLT, Nat.reduceEqDiff, ↓reduceIte, r_gr_wi, r_gl_wi, r_gk_wi, r_gn_wi, r_wi_eq, r_wi_ne, r_wi_nj, r_gi_wr, r_gl_wr, r_gk_wr, r_gn_wr, r_gr_wa, r_gl_wa, r_gk_wa, r_gn_wa, aa_e, as_e, al_e, u_lt, u_le, u_gt, u_ge, u_lt0, u_le0, u_gt0, u_ge0, Classical.not_not, not_true_eq_false, not_false_eq_true, oi_n, oi_m, n_dec, nI_add, pk_mul, n_sub, n_eq, n_le, n_lt, n_eq0, n_lt0, n_le0, n_0lt, n_0le, n_eqm, m_eqn, n_ltm, n_and, n_or, n_xor, n_shl, n_shr, tb1, tb0, bP_1, bP_0, bP_n0, ix_n, inb_n, u_eq, u_eqm, ma_k M, ma_k1 M, ma_k2 M, ma_k3 M, ma_k12 M, ma_k13 M, ma_k14 M, ma_r2 M, ma_r3 M, ma_r4 M, ma_r5 M, ma_r6 M, ma_r7 M]
      refine ⟨fun hc => ?_, fun hc => ?_⟩
      · have e1 : k = 1 <<< (2 * s 112 m) := by omega
        subst e1
        refine hP.1 _ _ s_Co_fairest_70 _ _ _ _ _ ?_
        simp (maxSteps := 1000000) (disch := omega) only [g_Co_fairest_70, slk, List.map_cons, List.map_nil, List.sum_cons, List.sum_nil, vc_i, vc_r, vc_n, vc_l, vc_o, Nat.add_zero, kO_e, kA_e, hdO_a, eq_self, blk, stp, lg, ls0, lk, ls1, ls2, kI_i, kL_l, kR_r, kR_n, kR_o, s1I_i, s2I_i, s1L_l, s2L_l, s1R_r, s1R_n, s1R_o, s1A_a, cmpc, popn, swt, rf_s, rf_n, cat_i, cat_r, cat_n, cat_l, true_and, and_true, List.length_cons, List.length_nil, Nat.zero_add, Int.reduceToNat, Nat.reduceAdd, Nat.reduceDiv, Nat.reduceMod, Nat.reduceMul, Nat.reduceSub, Nat.reduceLeDiff, Nat.reduceLT, Nat.reduceEqDiff, ↓reduceIte, r_gr_wi, r_gl_wi, r_gk_wi, r_gn_wi, r_wi_eq, r_wi_ne, r_wi_nj, r_gi_wr, r_gl_wr, r_gk_wr, r_gn_wr, r_gr_wa, r_gl_wa, r_gk_wa, r_gn_wa, aa_e, as_e, al_e, u_lt, u_le, u_gt, u_ge, u_lt0, u_le0, u_gt0, u_ge0, Classical.not_not, not_true_eq_false, not_false_eq_true, oi_n, oi_m, n_dec, nI_add, pk_mul, n_sub, n_eq, n_le, n_lt, n_eq0, n_lt0, n_le0, n_0lt, n_0le, n_eqm, m_eqn, n_ltm, n_and, n_or, n_xor, n_shl, n_shr, tb1, tb0, bP_1, bP_0, bP_n0, ix_n, inb_n, u_eq, u_eqm, ma_k M, ma_k1 M, ma_k2 M, ma_k3 M, ma_k12 M, ma_k13 M, ma_k14 M, ma_r2 M, ma_r3 M, ma_r4 M, ma_r5 M, ma_r6 M, ma_r7 M]
        rw [r_Co_fairest]
        exact ⟨trivial, rfl, F⟩
      · have hk2 : k < 1 <<< (2 * s 112 m) := by omega
        have sl := V1.2.1 k hk2
        have nx : ∀ H (v2 : Int32) v3 x6 x7, Fp (fun a => a = 60) h2 H → v2 = oN (mnG (fun x => isPr s m x ∧ abP s m x) (fun a b => lxI (sn s) (lsL s m a) (lsL s m b)) (k + 1)) → v3 = o0 (fun x => keN (lsL s m x) (sn s)) (mnG (fun x => isPr s m x ∧ abP s m x) (fun a b => lxI (sn s) (lsL s m a) (lsL s m b)) (k + 1)) → P 64 [some (.ref 59), some (.ref b), some (.int (v2)), some (.long (nL v3)), none, some (.int (nI k)), x6, x7] [] H 0 0 := by
          intro H v2 v3 x6 x7 F e2 e3
          refine hP.1 _ _ s_Co_fairest_64 _ _ _ _ _ ?_
          simp (maxSteps := 1000000) (disch := omega) only [g_Co_fairest_64, slk, List.map_cons, List.map_nil, List.sum_cons, List.sum_nil, vc_i, vc_r, vc_n, vc_l, vc_o, Nat.add_zero, kO_e, kA_e, hdO_a, eq_self, blk, stp, lg, ls0, lk, ls1, ls2, kI_i, kL_l, kR_r, kR_n, kR_o, s1I_i, s2I_i, s1L_l, s2L_l, s1R_r, s1R_n, s1R_o, s1A_a, cmpc, popn, swt, rf_s, rf_n, cat_i, cat_r, cat_n, cat_l, true_and, and_true, List.length_cons, List.length_nil, Nat.zero_add, Int.reduceToNat, Nat.reduceAdd, Nat.reduceDiv, Nat.reduceMod, Nat.reduceMul, Nat.reduceSub, Nat.reduceLeDiff, Nat.reduceLT, Nat.reduceEqDiff, ↓reduceIte, r_gr_wi, r_gl_wi, r_gk_wi, r_gn_wi, r_wi_eq, r_wi_ne, r_wi_nj, r_gi_wr, r_gl_wr, r_gk_wr, r_gn_wr, r_gr_wa, r_gl_wa, r_gk_wa, r_gn_wa, aa_e, as_e, al_e, u_lt, u_le, u_gt, u_ge, u_lt0, u_le0, u_gt0, u_ge0, Classical.not_not, not_true_eq_false, not_false_eq_true, oi_n, oi_m, n_dec, nI_add, pk_mul, n_sub, n_eq, n_le, n_lt, n_eq0, n_lt0, n_le0, n_0lt, n_0le, n_eqm, m_eqn, n_ltm, n_and, n_or, n_xor, n_shl, n_shr, tb1, tb0, bP_1, bP_0, bP_n0, ix_n, inb_n, u_eq, u_eqm, ma_k M, ma_k1 M, ma_k2 M, ma_k3 M, ma_k12 M, ma_k13 M, ma_k14 M, ma_r2 M, ma_r3 M, ma_r4 M, ma_r5 M, ma_r6 M, ma_r7 M]
          rw [e2, e3]
          exact ih (n - 1) (by omega) (k + 1) H _ _ (by omega) F
        have no : ¬ ((isPr s m k ∧ abP s m k) ∧ ∀ q, mnG (fun x => isPr s m x ∧ abP s m x) (fun a b => lxI (sn s) (lsL s m a) (lsL s m b)) k = some q → lxI (sn s) (lsL s m k) (lsL s m q)) → mnG (fun x => isPr s m x ∧ abP s m x) (fun a b => lxI (sn s) (lsL s m a) (lsL s m b)) (k + 1) = mnG (fun x => isPr s m x ∧ abP s m x) (fun a b => lxI (sn s) (lsL s m a) (lsL s m b)) k := fun z => mnG_f z
        have ye : ((isPr s m k ∧ abP s m k) ∧ ∀ q, mnG (fun x => isPr s m x ∧ abP s m x) (fun a b => lxI (sn s) (lsL s m a) (lsL s m b)) k = some q → lxI (sn s) (lsL s m k) (lsL s m q)) → mnG (fun x => isPr s m x ∧ abP s m x) (fun a b => lxI (sn s) (lsL s m a) (lsL s m b)) (k + 1) = some k := fun z => mnG_t z
        have om := oN_m1 (o := mnG (fun x => isPr s m x ∧ abP s m x) (fun a b => lxI (sn s) (lsL s m a) (lsL s m b)) k) (fun q e => by have := bl q e; omega)
        refine hP.1 _ _ s_Co_fairest_17 _ _ _ _ _ ?_
        simp (maxSteps := 1000000) (disch := omega) only [g_Co_fairest_17, slk, List.map_cons, List.map_nil, List.sum_cons, List.sum_nil, vc_i, vc_r, vc_n, vc_l, vc_o, Nat.add_zero, kO_e, kA_e, hdO_a, eq_self, blk, stp, lg, ls0, lk, ls1, ls2, kI_i, kL_l, kR_r, kR_n, kR_o, s1I_i, s2I_i, s1L_l, s2L_l, s1R_r, s1R_n, s1R_o, s1A_a, cmpc, popn, swt, rf_s, rf_n, cat_i, cat_r, cat_n, cat_l, true_and, and_true, List.length_cons, List.length_nil, Nat.zero_add, Int.reduceToNat, Nat.reduceAdd, Nat.reduceDiv, Nat.reduceMod, Nat.reduceMul, Nat.reduceSub, Nat.reduceLeDiff, Nat.reduceLT, Nat.reduceEqDiff, ↓reduceIte, r_gr_wi, r_gl_wi, r_gk_wi, r_gn_wi, r_wi_eq, r_wi_ne, r_wi_nj, r_gi_wr, r_gl_wr, r_gk_wr, r_gn_wr, r_gr_wa, r_gl_wa, r_gk_wa, r_gn_wa, aa_e, as_e, al_e, u_lt, u_le, u_gt, u_ge, u_lt0, u_le0, u_gt0, u_ge0, Classical.not_not, not_true_eq_false, not_false_eq_true, oi_n, oi_m, n_dec, nI_add, pk_mul, n_sub, n_eq, n_le, n_lt, n_eq0, n_lt0, n_le0, n_0lt, n_0le, n_eqm, m_eqn, n_ltm, n_and, n_or, n_xor, n_shl, n_shr, tb1, tb0, bP_1, bP_0, bP_n0, ix_n, inb_n, u_eq, u_eqm, k59 L, ma_k M, ma_k1 M, ma_k2 M, ma_k3 M, ma_k12 M, ma_k13 M, ma_k14 M, ma_r2 M, ma_r3 M, ma_r4 M, ma_r5 M, ma_r6 M, ma_r7 M, sl]
        refine wc (c_Co_isBorneByAll W g0 L C1 hm M V1 hk2) ⟨by omega, by omega⟩ ?_
        simp (maxSteps := 1000000) (disch := omega) only [slk, List.map_cons, List.map_nil, List.sum_cons, List.sum_nil, vc_i, vc_r, vc_n, vc_l, vc_o, Nat.add_zero, kO_e, kA_e, hdO_a, eq_self, blk, stp, lg, ls0, lk, ls1, ls2, kI_i, kL_l, kR_r, kR_n, kR_o, s1I_i, s2I_i, s1L_l, s2L_l, s1R_r, s1R_n, s1R_o, s1A_a, cmpc, popn, swt, rf_s, rf_n, cat_i, cat_r, cat_n, cat_l, true_and, and_true, List.length_cons, List.length_nil, Nat.zero_add, Int.reduceToNat, Nat.reduceAdd, Nat.reduceDiv, Nat.reduceMod, Nat.reduceMul, Nat.reduceSub, Nat.reduceLeDiff, Nat.reduceLT, Nat.reduceEqDiff, ↓reduceIte, r_gr_wi, r_gl_wi, r_gk_wi, r_gn_wi, r_wi_eq, r_wi_ne, r_wi_nj, r_gi_wr, r_gl_wr, r_gk_wr, r_gn_wr, r_gr_wa, r_gl_wa, r_gk_wa, r_gn_wa, aa_e, as_e, al_e, u_lt, u_le, u_gt, u_ge, u_lt0, u_le0, u_gt0, u_ge0, Classical.not_not, not_true_eq_false, not_false_eq_true, oi_n, oi_m, n_dec, nI_add, pk_mul, n_sub, n_eq, n_le, n_lt, n_eq0, n_lt0, n_le0, n_0lt, n_0le, n_eqm, m_eqn, n_ltm, n_and, n_or, n_xor, n_shl, n_shr, tb1, tb0, bP_1, bP_0, bP_n0, ix_n, inb_n, u_eq, u_eqm, k59 L, ma_k M, ma_k1 M, ma_k2 M, ma_k3 M, ma_k12 M, ma_k13 M, ma_k14 M, ma_r2 M, ma_r3 M, ma_r4 M, ma_r5 M, ma_r6 M, ma_r7 M, sl]
        refine ⟨fun q => nx H _ _ _ _ F (by rw [no (fun z => q z.1)]) (by rw [no (fun z => q z.1)]), fun q => ?_⟩
        have pr : isPr s m k ∧ abP s m k := (by first | exact q | exact Classical.not_not.mp q)
        refine hP.1 _ _ s_Co_fairest_32 _ _ _ _ _ ?_
        simp (maxSteps := 1000000) (disch := omega) only [g_Co_fairest_32, slk, List.map_cons, List.map_nil, List.sum_cons, List.sum_nil, vc_i, vc_r, vc_n, vc_l, vc_o, Nat.add_zero, kO_e, kA_e, hdO_a, eq_self, blk, stp, lg, ls0, lk, ls1, ls2, kI_i, kL_l, kR_r, kR_n, kR_o, s1I_i, s2I_i, s1L_l, s2L_l, s1R_r, s1R_n, s1R_o, s1A_a, cmpc, popn, swt, rf_s, rf_n, cat_i, cat_r, cat_n, cat_l, true_and, and_true, List.length_cons, List.length_nil, Nat.zero_add, Int.reduceToNat, Nat.reduceAdd, Nat.reduceDiv, Nat.reduceMod, Nat.reduceMul, Nat.reduceSub, Nat.reduceLeDiff, Nat.reduceLT, Nat.reduceEqDiff, ↓reduceIte, r_gr_wi, r_gl_wi, r_gk_wi, r_gn_wi, r_wi_eq, r_wi_ne, r_wi_nj, r_gi_wr, r_gl_wr, r_gk_wr, r_gn_wr, r_gr_wa, r_gl_wa, r_gk_wa, r_gn_wa, aa_e, as_e, al_e, u_lt, u_le, u_gt, u_ge, u_lt0, u_le0, u_gt0, u_ge0, Classical.not_not, not_true_eq_false, not_false_eq_true, oi_n, oi_m, n_dec, nI_add, pk_mul, n_sub, n_eq, n_le, n_lt, n_eq0, n_lt0, n_le0, n_0lt, n_0le, n_eqm, m_eqn, n_ltm, n_and, n_or, n_xor, n_shl, n_shr, tb1, tb0, bP_1, bP_0, bP_n0, ix_n, inb_n, u_eq, u_eqm, k59 L, ma_k M, ma_k1 M, ma_k2 M, ma_k3 M, ma_k12 M, ma_k13 M, ma_k14 M, ma_r2 M, ma_r3 M, ma_r4 M, ma_r5 M, ma_r6 M, ma_r7 M, sl]
        refine ⟨_, _, _, c_Co_lossesFalling W I L C1 hm M V1 pr.1, ⟨by omega, by omega⟩, ?_⟩
        rintro r H1 ⟨rfl, F1⟩
        have FF := F.trans F1
        simp (maxSteps := 1000000) (disch := omega) only [slk, List.map_cons, List.map_nil, List.sum_cons, List.sum_nil, vc_i, vc_r, vc_n, vc_l, vc_o, Nat.add_zero, kO_e, kA_e, hdO_a, eq_self, blk, stp, lg, ls0, lk, ls1, ls2, kI_i, kL_l, kR_r, kR_n, kR_o, s1I_i, s2I_i, s1L_l, s2L_l, s1R_r, s1R_n, s1R_o, s1A_a, cmpc, popn, swt, rf_s, rf_n, cat_i, cat_r, cat_n, cat_l, true_and, and_true, List.length_cons, List.length_nil, Nat.zero_add, Int.reduceToNat, Nat.reduceAdd, Nat.reduceDiv, Nat.reduceMod, Nat.reduceMul, Nat.reduceSub, Nat.reduceLeDiff, Nat.reduceLT, Nat.reduceEqDiff, ↓reduceIte, r_gr_wi, r_gl_wi, r_gk_wi, r_gn_wi, r_wi_eq, r_wi_ne, r_wi_nj, r_gi_wr, r_gl_wr, r_gk_wr, r_gn_wr, r_gr_wa, r_gl_wa, r_gk_wa, r_gn_wa, aa_e, as_e, al_e, u_lt, u_le, u_gt, u_ge, u_lt0, u_le0, u_gt0, u_ge0, Classical.not_not, not_true_eq_false, not_false_eq_true, oi_n, oi_m, n_dec, nI_add, pk_mul, n_sub, n_eq, n_le, n_lt, n_eq0, n_lt0, n_le0, n_0lt, n_0le, n_eqm, m_eqn, n_ltm, n_and, n_or, n_xor, n_shl, n_shr, tb1, tb0, bP_1, bP_0, bP_n0, ix_n, inb_n, u_eq, u_eqm, k59 L, om]
        have take : (∀ q, mnG (fun x => isPr s m x ∧ abP s m x) (fun a b => lxI (sn s) (lsL s m a) (lsL s m b)) k = some q → lxI (sn s) (lsL s m k) (lsL s m q)) → P 58 [some (.ref 59), some (.ref b), some (.int (oN (mnG (fun x => isPr s m x ∧ abP s m x) (fun a b => lxI (sn s) (lsL s m a) (lsL s m b)) k))), some (.long (nL (o0 (fun x => keN (lsL s m x) (sn s)) (mnG (fun x => isPr s m x ∧ abP s m x) (fun a b => lxI (sn s) (lsL s m a) (lsL s m b)) k)))), none, some (.int (nI k)), some (.long (nL (keN (lsL s m k) (sn s)))), none] [] H1 0 0 := by
          intro z
          refine hP.1 _ _ s_Co_fairest_58 _ _ _ _ _ ?_
          simp (maxSteps := 1000000) (disch := omega) only [g_Co_fairest_58, slk, List.map_cons, List.map_nil, List.sum_cons, List.sum_nil, vc_i, vc_r, vc_n, vc_l, vc_o, Nat.add_zero, kO_e, kA_e, hdO_a, eq_self, blk, stp, lg, ls0, lk, ls1, ls2, kI_i, kL_l, kR_r, kR_n, kR_o, s1I_i, s2I_i, s1L_l, s2L_l, s1R_r, s1R_n, s1R_o, s1A_a, cmpc, popn, swt, rf_s, rf_n, cat_i, cat_r, cat_n, cat_l, true_and, and_true, List.length_cons, List.length_nil, Nat.zero_add, Int.reduceToNat, Nat.reduceAdd, Nat.reduceDiv, Nat.reduceMod, Nat.reduceMul, Nat.reduceSub, Nat.reduceLeDiff, Nat.reduceLT, Nat.reduceEqDiff, ↓reduceIte, r_gr_wi, r_gl_wi, r_gk_wi, r_gn_wi, r_wi_eq, r_wi_ne, r_wi_nj, r_gi_wr, r_gl_wr, r_gk_wr, r_gn_wr, r_gr_wa, r_gl_wa, r_gk_wa, r_gn_wa, aa_e, as_e, al_e, u_lt, u_le, u_gt, u_ge, u_lt0, u_le0, u_gt0, u_ge0, Classical.not_not, not_true_eq_false, not_false_eq_true, oi_n, oi_m, n_dec, nI_add, pk_mul, n_sub, n_eq, n_le, n_lt, n_eq0, n_lt0, n_le0, n_0lt, n_0le, n_eqm, m_eqn, n_ltm, n_and, n_or, n_xor, n_shl, n_shr, tb1, tb0, bP_1, bP_0, bP_n0, ix_n, inb_n, u_eq, u_eqm, om]
          exact nx H1 _ _ _ _ FF (by rw [ye ⟨pr, z⟩]; rfl) (by rw [ye ⟨pr, z⟩]; rfl)
        refine ⟨fun z => take (fun q e => by rw [z] at e; cases e), fun z => ?_⟩
        cases eb : mnG (fun x => isPr s m x ∧ abP s m x) (fun a b => lxI (sn s) (lsL s m a) (lsL s m b)) k with
        | none => exact absurd eb z
        | some q2 =>
          rw [eb] at take no ye
          have e4 : o0 (fun x => keN (lsL s m x) (sn s)) (some q2) = keN (lsL s m q2) (sn s) := rfl
          have kk := nL_toInt (kb k)
          have kq := nL_toInt (kb q2)
          have kl := keN_l (l64 k) (l64 q2) (sn s)
          rw [e4] at take ⊢
          refine hP.1 _ _ s_Co_fairest_51 _ _ _ _ _ ?_
          simp (maxSteps := 1000000) (disch := omega) only [g_Co_fairest_51, slk, List.map_cons, List.map_nil, List.sum_cons, List.sum_nil, vc_i, vc_r, vc_n, vc_l, vc_o, Nat.add_zero, kO_e, kA_e, hdO_a, eq_self, blk, stp, lg, ls0, lk, ls1, ls2, kI_i, kL_l, kR_r, kR_n, kR_o, s1I_i, s2I_i, s1L_l, s2L_l, s1R_r, s1R_n, s1R_o, s1A_a, cmpc, popn, swt, rf_s, rf_n, cat_i, cat_r, cat_n, cat_l, true_and, and_true, List.length_cons, List.length_nil, Nat.zero_add, Int.reduceToNat, Nat.reduceAdd, Nat.reduceDiv, Nat.reduceMod, Nat.reduceMul, Nat.reduceSub, Nat.reduceLeDiff, Nat.reduceLT, Nat.reduceEqDiff, ↓reduceIte, r_gr_wi, r_gl_wi, r_gk_wi, r_gn_wi, r_wi_eq, r_wi_ne, r_wi_nj, r_gi_wr, r_gl_wr, r_gk_wr, r_gn_wr, r_gr_wa, r_gl_wa, r_gk_wa, r_gn_wa, aa_e, as_e, al_e, u_lt, u_le, u_gt, u_ge, u_lt0, u_le0, u_gt0, u_ge0, Classical.not_not, not_true_eq_false, not_false_eq_true, oi_n, oi_m, n_dec, nI_add, pk_mul, n_sub, n_eq, n_le, n_lt, n_eq0, n_lt0, n_le0, n_0lt, n_0le, n_eqm, m_eqn, n_ltm, n_and, n_or, n_xor, n_shl, n_shr, tb1, tb0, bP_1, bP_0, bP_n0, ix_n, inb_n, u_eq, u_eqm, lc_ge0, kk, kq]
          refine ⟨fun z2 => nx H1 _ _ _ _ FF (by rw [no (fun w => by have := kl.mpr (w.2 q2 rfl); omega)]) (by rw [no (fun w => by have := kl.mpr (w.2 q2 rfl); omega)]; rfl), fun z2 => ?_⟩
          exact take (fun q e => by cases e; exact kl.mp (by omega))
  refine hP.1 _ _ s_Co_fairest_0 _ _ _ _ _ ?_
  simp (maxSteps := 1000000) (disch := omega) only [g_Co_fairest_0, slk, List.map_cons, List.map_nil, List.sum_cons, List.sum_nil, vc_i, vc_r, vc_n, vc_l, vc_o, Nat.add_zero, kO_e, kA_e, hdO_a, eq_self, blk, stp, lg, ls0, lk, ls1, ls2, kI_i, kL_l, kR_r, kR_n, kR_o, s1I_i, s2I_i, s1L_l, s2L_l, s1R_r, s1R_n, s1R_o, s1A_a, cmpc, popn, swt, rf_s, rf_n, cat_i, cat_r, cat_n, cat_l, true_and, and_true, List.length_cons, List.length_nil, Nat.zero_add, Int.reduceToNat, Nat.reduceAdd, Nat.reduceDiv, Nat.reduceMod, Nat.reduceMul, Nat.reduceSub, Nat.reduceLeDiff, Nat.reduceLT, Nat.reduceEqDiff, ↓reduceIte, r_gr_wi, r_gl_wi, r_gk_wi, r_gn_wi, r_wi_eq, r_wi_ne, r_wi_nj, r_gi_wr, r_gl_wr, r_gk_wr, r_gn_wr, r_gr_wa, r_gl_wa, r_gk_wa, r_gn_wa, aa_e, as_e, al_e, u_lt, u_le, u_gt, u_ge, u_lt0, u_le0, u_gt0, u_ge0, Classical.not_not, not_true_eq_false, not_false_eq_true, oi_n, oi_m, n_dec, nI_add, pk_mul, n_sub, n_eq, n_le, n_lt, n_eq0, n_lt0, n_le0, n_0lt, n_0le, n_eqm, m_eqn, n_ltm, n_and, n_or, n_xor, n_shl, n_shr, tb1, tb0, bP_1, bP_0, bP_n0, ix_n, inb_n, u_eq, u_eqm]
  rw [nL_0]
  exact loop _ 0 h2 none none (Nat.zero_add _) (Fp.refl _ _)
end
