/-! ===== the reference's small readers ===== -/
theorem n_R_isIn : mN 50 = 3 := rfl
theorem l_R_isIn : mL 50 = 3 := rfl
theorem r_R_isIn : mR 50 = some .boolean := rfl
theorem n_R_isSign : mN 89 = 1 := rfl
theorem l_R_isSign : mL 89 = 1 := rfl
theorem r_R_isSign : mR 89 = some .boolean := rfl
theorem n_R_wayIn : mN 66 = 3 := rfl
theorem l_R_wayIn : mL 66 = 3 := rfl
theorem r_R_wayIn : mR 66 = some .int := rfl
theorem n_R_holdAt : mN 61 = 4 := rfl
theorem l_R_holdAt : mL 61 = 4 := rfl
theorem r_R_holdAt : mR 61 = some .int := rfl
theorem n_R_isElder : mN 51 = 2 := rfl
theorem l_R_isElder : mL 51 = 2 := rfl
theorem r_R_isElder : mR 51 = some .boolean := rfl
theorem n_R_thrown : mN 49 = 1 := rfl
theorem l_R_thrown : mL 49 = 1 := rfl
theorem r_R_thrown : mR 49 = some .int := rfl
theorem n_R_isMatter : mN 52 = 2 := rfl
theorem l_R_isMatter : mL 52 = 2 := rfl
theorem r_R_isMatter : mR 52 = some .boolean := rfl
theorem n_R_isMind : mN 100 = 2 := rfl
theorem l_R_isMind : mL 100 = 2 := rfl
theorem r_R_isMind : mR 100 = some .boolean := rfl
def isInF (v a b : Int32) : Bool := decide (a ≤ v ∧ v ≤ b)
theorem c_R_isIn {d : Nat} {v a b : Int32} {h : AH} : Mz (d + 1) 50 [.int v, .int a, .int b] h 0 0 (fun r h' => r = some (some (.int (bI (isInF v a b)))) ∧ h' = h) := by
  refine mz_in (l := [some (.int v), some (.int a), some (.int b)]) mk_R_isIn n_R_isIn rfl l_R_isIn rfl (Nat.le_of_ble_eq_true rfl) fun P hP => ?_
  refine hP.1 _ _ s_R_isIn_0 _ _ _ _ _ ?_
  simp only [g_R_isIn_0, blk, stp, lg, ls0, lk, ls1, ls2, kI_i, kL_l, kR_r, kR_n, kR_o, s1I_i, s2I_i, s1L_l, s2L_l, s1R_r, s1R_n, s1R_o, s1A_a, cmpc, popn, rf_s, rf_n, cat_i, cat_r, cat_n, cat_l, true_and, and_true, List.length_cons, List.length_nil, Nat.zero_add, Int.reduceToNat, Int32.reduceOfInt, Nat.reduceAdd, Nat.reduceDiv, Nat.reduceMod, Nat.reduceMul, Nat.reduceLeDiff, reduceIte, r_gr_wi, r_gl_wi, r_gk_wi, r_gn_wi, r_gi_wr, r_gl_wr, r_gk_wr, r_gn_wr, r_gr_wa, r_gl_wa, r_gk_wa, r_gn_wa, r_R_isIn]
  refine ⟨fun hc => ?_, fun hc => ?_⟩
  · refine hP.1 _ _ s_R_isIn_14 _ _ _ _ _ ?_
    simp only [g_R_isIn_14, blk, stp, lg, ls0, lk, ls1, ls2, kI_i, kL_l, kR_r, kR_n, kR_o, s1I_i, s2I_i, s1L_l, s2L_l, s1R_r, s1R_n, s1R_o, s1A_a, cmpc, popn, rf_s, rf_n, cat_i, cat_r, cat_n, cat_l, true_and, and_true, List.length_cons, List.length_nil, Nat.zero_add, Int.reduceToNat, Int32.reduceOfInt, Nat.reduceAdd, Nat.reduceDiv, Nat.reduceMod, Nat.reduceMul, Nat.reduceLeDiff, reduceIte, r_gr_wi, r_gl_wi, r_gk_wi, r_gn_wi, r_gi_wr, r_gl_wr, r_gk_wr, r_gn_wr, r_gr_wa, r_gl_wa, r_gk_wa, r_gn_wa, r_R_isIn]
    refine hP.1 _ _ s_R_isIn_15 _ _ _ _ _ ?_
    simp only [g_R_isIn_15, blk, stp, lg, ls0, lk, ls1, ls2, kI_i, kL_l, kR_r, kR_n, kR_o, s1I_i, s2I_i, s1L_l, s2L_l, s1R_r, s1R_n, s1R_o, s1A_a, cmpc, popn, rf_s, rf_n, cat_i, cat_r, cat_n, cat_l, true_and, and_true, List.length_cons, List.length_nil, Nat.zero_add, Int.reduceToNat, Int32.reduceOfInt, Nat.reduceAdd, Nat.reduceDiv, Nat.reduceMod, Nat.reduceMul, Nat.reduceLeDiff, reduceIte, r_gr_wi, r_gl_wi, r_gk_wi, r_gn_wi, r_gi_wr, r_gl_wr, r_gk_wr, r_gn_wr, r_gr_wa, r_gl_wa, r_gk_wa, r_gn_wa, r_R_isIn]
    (first | exact leafF (by simp only [isInF, decide_eq_false_iff_not, Int32.lt_iff_toInt_lt, Int32.le_iff_toInt_le] at *; omega) | exact leafT (by simp only [isInF, decide_eq_true_eq, Int32.lt_iff_toInt_lt, Int32.le_iff_toInt_le] at *; omega))
  · skip
    refine ⟨fun hc => ?_, fun hc => ?_⟩
    · refine hP.1 _ _ s_R_isIn_14 _ _ _ _ _ ?_
      simp only [g_R_isIn_14, blk, stp, lg, ls0, lk, ls1, ls2, kI_i, kL_l, kR_r, kR_n, kR_o, s1I_i, s2I_i, s1L_l, s2L_l, s1R_r, s1R_n, s1R_o, s1A_a, cmpc, popn, rf_s, rf_n, cat_i, cat_r, cat_n, cat_l, true_and, and_true, List.length_cons, List.length_nil, Nat.zero_add, Int.reduceToNat, Int32.reduceOfInt, Nat.reduceAdd, Nat.reduceDiv, Nat.reduceMod, Nat.reduceMul, Nat.reduceLeDiff, reduceIte, r_gr_wi, r_gl_wi, r_gk_wi, r_gn_wi, r_gi_wr, r_gl_wr, r_gk_wr, r_gn_wr, r_gr_wa, r_gl_wa, r_gk_wa, r_gn_wa, r_R_isIn]
      refine hP.1 _ _ s_R_isIn_15 _ _ _ _ _ ?_
      simp only [g_R_isIn_15, blk, stp, lg, ls0, lk, ls1, ls2, kI_i, kL_l, kR_r, kR_n, kR_o, s1I_i, s2I_i, s1L_l, s2L_l, s1R_r, s1R_n, s1R_o, s1A_a, cmpc, popn, rf_s, rf_n, cat_i, cat_r, cat_n, cat_l, true_and, and_true, List.length_cons, List.length_nil, Nat.zero_add, Int.reduceToNat, Int32.reduceOfInt, Nat.reduceAdd, Nat.reduceDiv, Nat.reduceMod, Nat.reduceMul, Nat.reduceLeDiff, reduceIte, r_gr_wi, r_gl_wi, r_gk_wi, r_gn_wi, r_gi_wr, r_gl_wr, r_gk_wr, r_gn_wr, r_gr_wa, r_gl_wa, r_gk_wa, r_gn_wa, r_R_isIn]
      (first | exact leafF (by simp only [isInF, decide_eq_false_iff_not, Int32.lt_iff_toInt_lt, Int32.le_iff_toInt_le] at *; omega) | exact leafT (by simp only [isInF, decide_eq_true_eq, Int32.lt_iff_toInt_lt, Int32.le_iff_toInt_le] at *; omega))
    · skip
      refine hP.1 _ _ s_R_isIn_15 _ _ _ _ _ ?_
      simp only [g_R_isIn_15, blk, stp, lg, ls0, lk, ls1, ls2, kI_i, kL_l, kR_r, kR_n, kR_o, s1I_i, s2I_i, s1L_l, s2L_l, s1R_r, s1R_n, s1R_o, s1A_a, cmpc, popn, rf_s, rf_n, cat_i, cat_r, cat_n, cat_l, true_and, and_true, List.length_cons, List.length_nil, Nat.zero_add, Int.reduceToNat, Int32.reduceOfInt, Nat.reduceAdd, Nat.reduceDiv, Nat.reduceMod, Nat.reduceMul, Nat.reduceLeDiff, reduceIte, r_gr_wi, r_gl_wi, r_gk_wi, r_gn_wi, r_gi_wr, r_gl_wr, r_gk_wr, r_gn_wr, r_gr_wa, r_gl_wa, r_gk_wa, r_gn_wa, r_R_isIn]
      (first | exact leafF (by simp only [isInF, decide_eq_false_iff_not, Int32.lt_iff_toInt_lt, Int32.le_iff_toInt_le] at *; omega) | exact leafT (by simp only [isInF, decide_eq_true_eq, Int32.lt_iff_toInt_lt, Int32.le_iff_toInt_le] at *; omega))
def isSgF (x : Int32) : Bool := decide (x = 61 ∨ x = 60 ∨ x = 62)
theorem c_R_isSign {d : Nat} {x : Int32} {h : AH} : Mz (d + 1) 89 [.int x] h 0 0 (fun r h' => r = some (some (.int (bI (isSgF x)))) ∧ h' = h) := by
  refine mz_in (l := [some (.int x)]) mk_R_isSign n_R_isSign rfl l_R_isSign rfl (Nat.le_of_ble_eq_true rfl) fun P hP => ?_
  refine hP.1 _ _ s_R_isSign_0 _ _ _ _ _ ?_
  simp only [g_R_isSign_0, blk, stp, lg, ls0, lk, ls1, ls2, kI_i, kL_l, kR_r, kR_n, kR_o, s1I_i, s2I_i, s1L_l, s2L_l, s1R_r, s1R_n, s1R_o, s1A_a, cmpc, popn, rf_s, rf_n, cat_i, cat_r, cat_n, cat_l, true_and, and_true, List.length_cons, List.length_nil, Nat.zero_add, Int.reduceToNat, Int32.reduceOfInt, Nat.reduceAdd, Nat.reduceDiv, Nat.reduceMod, Nat.reduceMul, Nat.reduceLeDiff, reduceIte, r_gr_wi, r_gl_wi, r_gk_wi, r_gn_wi, r_gi_wr, r_gl_wr, r_gk_wr, r_gn_wr, r_gr_wa, r_gl_wa, r_gk_wa, r_gn_wa, r_R_isSign]
  refine ⟨fun hc => ?_, fun hc => ?_⟩
  · refine hP.1 _ _ s_R_isSign_18 _ _ _ _ _ ?_
    simp only [g_R_isSign_18, blk, stp, lg, ls0, lk, ls1, ls2, kI_i, kL_l, kR_r, kR_n, kR_o, s1I_i, s2I_i, s1L_l, s2L_l, s1R_r, s1R_n, s1R_o, s1A_a, cmpc, popn, rf_s, rf_n, cat_i, cat_r, cat_n, cat_l, true_and, and_true, List.length_cons, List.length_nil, Nat.zero_add, Int.reduceToNat, Int32.reduceOfInt, Nat.reduceAdd, Nat.reduceDiv, Nat.reduceMod, Nat.reduceMul, Nat.reduceLeDiff, reduceIte, r_gr_wi, r_gl_wi, r_gk_wi, r_gn_wi, r_gi_wr, r_gl_wr, r_gk_wr, r_gn_wr, r_gr_wa, r_gl_wa, r_gk_wa, r_gn_wa, r_R_isSign]
    refine hP.1 _ _ s_R_isSign_23 _ _ _ _ _ ?_
    simp only [g_R_isSign_23, blk, stp, lg, ls0, lk, ls1, ls2, kI_i, kL_l, kR_r, kR_n, kR_o, s1I_i, s2I_i, s1L_l, s2L_l, s1R_r, s1R_n, s1R_o, s1A_a, cmpc, popn, rf_s, rf_n, cat_i, cat_r, cat_n, cat_l, true_and, and_true, List.length_cons, List.length_nil, Nat.zero_add, Int.reduceToNat, Int32.reduceOfInt, Nat.reduceAdd, Nat.reduceDiv, Nat.reduceMod, Nat.reduceMul, Nat.reduceLeDiff, reduceIte, r_gr_wi, r_gl_wi, r_gk_wi, r_gn_wi, r_gi_wr, r_gl_wr, r_gk_wr, r_gn_wr, r_gr_wa, r_gl_wa, r_gk_wa, r_gn_wa, r_R_isSign]
    (first | exact leafF (by simp_all [isSgF]) | exact leafT (by simp_all [isSgF]))
  · skip
    refine ⟨fun hc => ?_, fun hc => ?_⟩
    · refine hP.1 _ _ s_R_isSign_18 _ _ _ _ _ ?_
      simp only [g_R_isSign_18, blk, stp, lg, ls0, lk, ls1, ls2, kI_i, kL_l, kR_r, kR_n, kR_o, s1I_i, s2I_i, s1L_l, s2L_l, s1R_r, s1R_n, s1R_o, s1A_a, cmpc, popn, rf_s, rf_n, cat_i, cat_r, cat_n, cat_l, true_and, and_true, List.length_cons, List.length_nil, Nat.zero_add, Int.reduceToNat, Int32.reduceOfInt, Nat.reduceAdd, Nat.reduceDiv, Nat.reduceMod, Nat.reduceMul, Nat.reduceLeDiff, reduceIte, r_gr_wi, r_gl_wi, r_gk_wi, r_gn_wi, r_gi_wr, r_gl_wr, r_gk_wr, r_gn_wr, r_gr_wa, r_gl_wa, r_gk_wa, r_gn_wa, r_R_isSign]
      refine hP.1 _ _ s_R_isSign_23 _ _ _ _ _ ?_
      simp only [g_R_isSign_23, blk, stp, lg, ls0, lk, ls1, ls2, kI_i, kL_l, kR_r, kR_n, kR_o, s1I_i, s2I_i, s1L_l, s2L_l, s1R_r, s1R_n, s1R_o, s1A_a, cmpc, popn, rf_s, rf_n, cat_i, cat_r, cat_n, cat_l, true_and, and_true, List.length_cons, List.length_nil, Nat.zero_add, Int.reduceToNat, Int32.reduceOfInt, Nat.reduceAdd, Nat.reduceDiv, Nat.reduceMod, Nat.reduceMul, Nat.reduceLeDiff, reduceIte, r_gr_wi, r_gl_wi, r_gk_wi, r_gn_wi, r_gi_wr, r_gl_wr, r_gk_wr, r_gn_wr, r_gr_wa, r_gl_wa, r_gk_wa, r_gn_wa, r_R_isSign]
      (first | exact leafF (by simp_all [isSgF]) | exact leafT (by simp_all [isSgF]))
    · skip
      refine ⟨fun hc => ?_, fun hc => ?_⟩
      · refine hP.1 _ _ s_R_isSign_22 _ _ _ _ _ ?_
        simp only [g_R_isSign_22, blk, stp, lg, ls0, lk, ls1, ls2, kI_i, kL_l, kR_r, kR_n, kR_o, s1I_i, s2I_i, s1L_l, s2L_l, s1R_r, s1R_n, s1R_o, s1A_a, cmpc, popn, rf_s, rf_n, cat_i, cat_r, cat_n, cat_l, true_and, and_true, List.length_cons, List.length_nil, Nat.zero_add, Int.reduceToNat, Int32.reduceOfInt, Nat.reduceAdd, Nat.reduceDiv, Nat.reduceMod, Nat.reduceMul, Nat.reduceLeDiff, reduceIte, r_gr_wi, r_gl_wi, r_gk_wi, r_gn_wi, r_gi_wr, r_gl_wr, r_gk_wr, r_gn_wr, r_gr_wa, r_gl_wa, r_gk_wa, r_gn_wa, r_R_isSign]
        refine hP.1 _ _ s_R_isSign_23 _ _ _ _ _ ?_
        simp only [g_R_isSign_23, blk, stp, lg, ls0, lk, ls1, ls2, kI_i, kL_l, kR_r, kR_n, kR_o, s1I_i, s2I_i, s1L_l, s2L_l, s1R_r, s1R_n, s1R_o, s1A_a, cmpc, popn, rf_s, rf_n, cat_i, cat_r, cat_n, cat_l, true_and, and_true, List.length_cons, List.length_nil, Nat.zero_add, Int.reduceToNat, Int32.reduceOfInt, Nat.reduceAdd, Nat.reduceDiv, Nat.reduceMod, Nat.reduceMul, Nat.reduceLeDiff, reduceIte, r_gr_wi, r_gl_wi, r_gk_wi, r_gn_wi, r_gi_wr, r_gl_wr, r_gk_wr, r_gn_wr, r_gr_wa, r_gl_wa, r_gk_wa, r_gn_wa, r_R_isSign]
        (first | exact leafF (by simp_all [isSgF]) | exact leafT (by simp_all [isSgF]))
      · skip
        refine hP.1 _ _ s_R_isSign_18 _ _ _ _ _ ?_
        simp only [g_R_isSign_18, blk, stp, lg, ls0, lk, ls1, ls2, kI_i, kL_l, kR_r, kR_n, kR_o, s1I_i, s2I_i, s1L_l, s2L_l, s1R_r, s1R_n, s1R_o, s1A_a, cmpc, popn, rf_s, rf_n, cat_i, cat_r, cat_n, cat_l, true_and, and_true, List.length_cons, List.length_nil, Nat.zero_add, Int.reduceToNat, Int32.reduceOfInt, Nat.reduceAdd, Nat.reduceDiv, Nat.reduceMod, Nat.reduceMul, Nat.reduceLeDiff, reduceIte, r_gr_wi, r_gl_wi, r_gk_wi, r_gn_wi, r_gi_wr, r_gl_wr, r_gk_wr, r_gn_wr, r_gr_wa, r_gl_wa, r_gk_wa, r_gn_wa, r_R_isSign]
        refine hP.1 _ _ s_R_isSign_23 _ _ _ _ _ ?_
        simp only [g_R_isSign_23, blk, stp, lg, ls0, lk, ls1, ls2, kI_i, kL_l, kR_r, kR_n, kR_o, s1I_i, s2I_i, s1L_l, s2L_l, s1R_r, s1R_n, s1R_o, s1A_a, cmpc, popn, rf_s, rf_n, cat_i, cat_r, cat_n, cat_l, true_and, and_true, List.length_cons, List.length_nil, Nat.zero_add, Int.reduceToNat, Int32.reduceOfInt, Nat.reduceAdd, Nat.reduceDiv, Nat.reduceMod, Nat.reduceMul, Nat.reduceLeDiff, reduceIte, r_gr_wi, r_gl_wi, r_gk_wi, r_gn_wi, r_gi_wr, r_gl_wr, r_gk_wr, r_gn_wr, r_gr_wa, r_gl_wa, r_gk_wa, r_gn_wa, r_R_isSign]
        (first | exact leafF (by simp_all [isSgF]) | exact leafT (by simp_all [isSgF]))
theorem c_R_wayIn {d : Nat} {n x p : Int32} {h : AH} : Mz (d + 1) 66 [.int n, .int x, .int p] h 0 0 (fun r h' => r = some (some (.int ((x >>> (2 * (n - 1 - p) &&& 31)) &&& 3))) ∧ h' = h) := by
  refine mz_in (l := [some (.int n), some (.int x), some (.int p)]) mk_R_wayIn n_R_wayIn rfl l_R_wayIn rfl (Nat.le_of_ble_eq_true rfl) fun P hP => ?_
  refine hP.1 _ _ s_R_wayIn_0 _ _ _ _ _ ?_
  simp only [g_R_wayIn_0, blk, stp, lg, ls0, lk, ls1, ls2, kI_i, kL_l, kR_r, kR_n, kR_o, s1I_i, s2I_i, s1L_l, s2L_l, s1R_r, s1R_n, s1R_o, s1A_a, cmpc, popn, rf_s, rf_n, cat_i, cat_r, cat_n, cat_l, true_and, and_true, List.length_cons, List.length_nil, Nat.zero_add, Int.reduceToNat, Int32.reduceOfInt, Nat.reduceAdd, Nat.reduceDiv, Nat.reduceMod, Nat.reduceMul, Nat.reduceLeDiff, reduceIte, r_gr_wi, r_gl_wi, r_gk_wi, r_gn_wi, r_gi_wr, r_gl_wr, r_gk_wr, r_gn_wr, r_gr_wa, r_gl_wa, r_gk_wa, r_gn_wa, r_R_wayIn]
  exact trivial
theorem c_R_holdAt {d : Nat} {e m p w : Int32} {h : AH} : Mz (d + 1) 61 [.int e, .int m, .int p, .int w] h 0 0 (fun r h' => r = some (some (.int (((4 * e + m) * 5 + p) * 4 + w))) ∧ h' = h) := by
  refine mz_in (l := [some (.int e), some (.int m), some (.int p), some (.int w)]) mk_R_holdAt n_R_holdAt rfl l_R_holdAt rfl (Nat.le_of_ble_eq_true rfl) fun P hP => ?_
  refine hP.1 _ _ s_R_holdAt_0 _ _ _ _ _ ?_
  simp only [g_R_holdAt_0, blk, stp, lg, ls0, lk, ls1, ls2, kI_i, kL_l, kR_r, kR_n, kR_o, s1I_i, s2I_i, s1L_l, s2L_l, s1R_r, s1R_n, s1R_o, s1A_a, cmpc, popn, rf_s, rf_n, cat_i, cat_r, cat_n, cat_l, true_and, and_true, List.length_cons, List.length_nil, Nat.zero_add, Int.reduceToNat, Int32.reduceOfInt, Nat.reduceAdd, Nat.reduceDiv, Nat.reduceMod, Nat.reduceMul, Nat.reduceLeDiff, reduceIte, r_gr_wi, r_gl_wi, r_gk_wi, r_gn_wi, r_gi_wr, r_gl_wr, r_gk_wr, r_gn_wr, r_gr_wa, r_gl_wa, r_gk_wa, r_gn_wa, r_R_holdAt]
  exact trivial
theorem c_R_thrown {d a : Nat} {h : AH} (ha : gk h a = some (.inl 12)) : Mz (d + 1) 49 [.ref a] h 0 0 (fun r h' => r = some (some (.int (gi h a 0))) ∧ h' = h) := by
  refine mz_in (l := [some (.ref a)]) mk_R_thrown n_R_thrown rfl l_R_thrown rfl (Nat.le_of_ble_eq_true rfl) fun P hP => ?_
  refine hP.1 _ _ s_R_thrown_0 _ _ _ _ _ ?_
  simp only [g_R_thrown_0, blk, stp, lg, ls0, lk, ls1, ls2, kI_i, kL_l, kR_r, kR_n, kR_o, s1I_i, s2I_i, s1L_l, s2L_l, s1R_r, s1R_n, s1R_o, s1A_a, cmpc, popn, rf_s, rf_n, cat_i, cat_r, cat_n, cat_l, true_and, and_true, List.length_cons, List.length_nil, Nat.zero_add, Int.reduceToNat, Int32.reduceOfInt, Nat.reduceAdd, Nat.reduceDiv, Nat.reduceMod, Nat.reduceMul, Nat.reduceLeDiff, reduceIte, r_gr_wi, r_gl_wi, r_gk_wi, r_gn_wi, r_gi_wr, r_gl_wr, r_gk_wr, r_gn_wr, r_gr_wa, r_gl_wa, r_gk_wa, r_gn_wa, r_R_thrown, kO_s ha]
  exact trivial
def belF (x n : Int32) : Bool := decide (0 ≤ x ∧ x < n)
theorem c_R_isElder {d a : Nat} {x : Int32} {h : AH} (ha : gk h a = some (.inl 12)) : Mz (d + 1) 51 [.ref a, .int x] h 0 0 (fun r h' => r = some (some (.int (bI (belF x (gi h a 18))))) ∧ h' = h) := by
  refine mz_in (l := [some (.ref a), some (.int x)]) mk_R_isElder n_R_isElder rfl l_R_isElder rfl (Nat.le_of_ble_eq_true rfl) fun P hP => ?_
  refine hP.1 _ _ s_R_isElder_0 _ _ _ _ _ ?_
  simp only [g_R_isElder_0, blk, stp, lg, ls0, lk, ls1, ls2, kI_i, kL_l, kR_r, kR_n, kR_o, s1I_i, s2I_i, s1L_l, s2L_l, s1R_r, s1R_n, s1R_o, s1A_a, cmpc, popn, rf_s, rf_n, cat_i, cat_r, cat_n, cat_l, true_and, and_true, List.length_cons, List.length_nil, Nat.zero_add, Int.reduceToNat, Int32.reduceOfInt, Nat.reduceAdd, Nat.reduceDiv, Nat.reduceMod, Nat.reduceMul, Nat.reduceLeDiff, reduceIte, r_gr_wi, r_gl_wi, r_gk_wi, r_gn_wi, r_gi_wr, r_gl_wr, r_gk_wr, r_gn_wr, r_gr_wa, r_gl_wa, r_gk_wa, r_gn_wa, r_R_isElder, kO_s ha]
  refine ⟨fun hc => ?_, fun hc => ?_⟩
  · refine hP.1 _ _ s_R_isElder_16 _ _ _ _ _ ?_
    simp only [g_R_isElder_16, blk, stp, lg, ls0, lk, ls1, ls2, kI_i, kL_l, kR_r, kR_n, kR_o, s1I_i, s2I_i, s1L_l, s2L_l, s1R_r, s1R_n, s1R_o, s1A_a, cmpc, popn, rf_s, rf_n, cat_i, cat_r, cat_n, cat_l, true_and, and_true, List.length_cons, List.length_nil, Nat.zero_add, Int.reduceToNat, Int32.reduceOfInt, Nat.reduceAdd, Nat.reduceDiv, Nat.reduceMod, Nat.reduceMul, Nat.reduceLeDiff, reduceIte, r_gr_wi, r_gl_wi, r_gk_wi, r_gn_wi, r_gi_wr, r_gl_wr, r_gk_wr, r_gn_wr, r_gr_wa, r_gl_wa, r_gk_wa, r_gn_wa, r_R_isElder, kO_s ha]
    refine hP.1 _ _ s_R_isElder_17 _ _ _ _ _ ?_
    simp only [g_R_isElder_17, blk, stp, lg, ls0, lk, ls1, ls2, kI_i, kL_l, kR_r, kR_n, kR_o, s1I_i, s2I_i, s1L_l, s2L_l, s1R_r, s1R_n, s1R_o, s1A_a, cmpc, popn, rf_s, rf_n, cat_i, cat_r, cat_n, cat_l, true_and, and_true, List.length_cons, List.length_nil, Nat.zero_add, Int.reduceToNat, Int32.reduceOfInt, Nat.reduceAdd, Nat.reduceDiv, Nat.reduceMod, Nat.reduceMul, Nat.reduceLeDiff, reduceIte, r_gr_wi, r_gl_wi, r_gk_wi, r_gn_wi, r_gi_wr, r_gl_wr, r_gk_wr, r_gn_wr, r_gr_wa, r_gl_wa, r_gk_wa, r_gn_wa, r_R_isElder, kO_s ha]
    (first | exact leafF (by simp only [belF, decide_eq_false_iff_not, Int32.lt_iff_toInt_lt, Int32.le_iff_toInt_le] at *; omega) | exact leafT (by simp only [belF, decide_eq_true_eq, Int32.lt_iff_toInt_lt, Int32.le_iff_toInt_le] at *; omega))
  · skip
    refine ⟨fun hc => ?_, fun hc => ?_⟩
    · refine hP.1 _ _ s_R_isElder_16 _ _ _ _ _ ?_
      simp only [g_R_isElder_16, blk, stp, lg, ls0, lk, ls1, ls2, kI_i, kL_l, kR_r, kR_n, kR_o, s1I_i, s2I_i, s1L_l, s2L_l, s1R_r, s1R_n, s1R_o, s1A_a, cmpc, popn, rf_s, rf_n, cat_i, cat_r, cat_n, cat_l, true_and, and_true, List.length_cons, List.length_nil, Nat.zero_add, Int.reduceToNat, Int32.reduceOfInt, Nat.reduceAdd, Nat.reduceDiv, Nat.reduceMod, Nat.reduceMul, Nat.reduceLeDiff, reduceIte, r_gr_wi, r_gl_wi, r_gk_wi, r_gn_wi, r_gi_wr, r_gl_wr, r_gk_wr, r_gn_wr, r_gr_wa, r_gl_wa, r_gk_wa, r_gn_wa, r_R_isElder, kO_s ha]
      refine hP.1 _ _ s_R_isElder_17 _ _ _ _ _ ?_
      simp only [g_R_isElder_17, blk, stp, lg, ls0, lk, ls1, ls2, kI_i, kL_l, kR_r, kR_n, kR_o, s1I_i, s2I_i, s1L_l, s2L_l, s1R_r, s1R_n, s1R_o, s1A_a, cmpc, popn, rf_s, rf_n, cat_i, cat_r, cat_n, cat_l, true_and, and_true, List.length_cons, List.length_nil, Nat.zero_add, Int.reduceToNat, Int32.reduceOfInt, Nat.reduceAdd, Nat.reduceDiv, Nat.reduceMod, Nat.reduceMul, Nat.reduceLeDiff, reduceIte, r_gr_wi, r_gl_wi, r_gk_wi, r_gn_wi, r_gi_wr, r_gl_wr, r_gk_wr, r_gn_wr, r_gr_wa, r_gl_wa, r_gk_wa, r_gn_wa, r_R_isElder, kO_s ha]
      (first | exact leafF (by simp only [belF, decide_eq_false_iff_not, Int32.lt_iff_toInt_lt, Int32.le_iff_toInt_le] at *; omega) | exact leafT (by simp only [belF, decide_eq_true_eq, Int32.lt_iff_toInt_lt, Int32.le_iff_toInt_le] at *; omega))
    · skip
      refine hP.1 _ _ s_R_isElder_17 _ _ _ _ _ ?_
      simp only [g_R_isElder_17, blk, stp, lg, ls0, lk, ls1, ls2, kI_i, kL_l, kR_r, kR_n, kR_o, s1I_i, s2I_i, s1L_l, s2L_l, s1R_r, s1R_n, s1R_o, s1A_a, cmpc, popn, rf_s, rf_n, cat_i, cat_r, cat_n, cat_l, true_and, and_true, List.length_cons, List.length_nil, Nat.zero_add, Int.reduceToNat, Int32.reduceOfInt, Nat.reduceAdd, Nat.reduceDiv, Nat.reduceMod, Nat.reduceMul, Nat.reduceLeDiff, reduceIte, r_gr_wi, r_gl_wi, r_gk_wi, r_gn_wi, r_gi_wr, r_gl_wr, r_gk_wr, r_gn_wr, r_gr_wa, r_gl_wa, r_gk_wa, r_gn_wa, r_R_isElder, kO_s ha]
      (first | exact leafF (by simp only [belF, decide_eq_false_iff_not, Int32.lt_iff_toInt_lt, Int32.le_iff_toInt_le] at *; omega) | exact leafT (by simp only [belF, decide_eq_true_eq, Int32.lt_iff_toInt_lt, Int32.le_iff_toInt_le] at *; omega))
theorem c_R_isMatter {d a : Nat} {x : Int32} {h : AH} (ha : gk h a = some (.inl 12)) : Mz (d + 1) 52 [.ref a, .int x] h 0 0 (fun r h' => r = some (some (.int (bI (belF x (gi h a 19))))) ∧ h' = h) := by
  refine mz_in (l := [some (.ref a), some (.int x)]) mk_R_isMatter n_R_isMatter rfl l_R_isMatter rfl (Nat.le_of_ble_eq_true rfl) fun P hP => ?_
  refine hP.1 _ _ s_R_isMatter_0 _ _ _ _ _ ?_
  simp only [g_R_isMatter_0, blk, stp, lg, ls0, lk, ls1, ls2, kI_i, kL_l, kR_r, kR_n, kR_o, s1I_i, s2I_i, s1L_l, s2L_l, s1R_r, s1R_n, s1R_o, s1A_a, cmpc, popn, rf_s, rf_n, cat_i, cat_r, cat_n, cat_l, true_and, and_true, List.length_cons, List.length_nil, Nat.zero_add, Int.reduceToNat, Int32.reduceOfInt, Nat.reduceAdd, Nat.reduceDiv, Nat.reduceMod, Nat.reduceMul, Nat.reduceLeDiff, reduceIte, r_gr_wi, r_gl_wi, r_gk_wi, r_gn_wi, r_gi_wr, r_gl_wr, r_gk_wr, r_gn_wr, r_gr_wa, r_gl_wa, r_gk_wa, r_gn_wa, r_R_isMatter, kO_s ha]
  refine ⟨fun hc => ?_, fun hc => ?_⟩
  · refine hP.1 _ _ s_R_isMatter_16 _ _ _ _ _ ?_
    simp only [g_R_isMatter_16, blk, stp, lg, ls0, lk, ls1, ls2, kI_i, kL_l, kR_r, kR_n, kR_o, s1I_i, s2I_i, s1L_l, s2L_l, s1R_r, s1R_n, s1R_o, s1A_a, cmpc, popn, rf_s, rf_n, cat_i, cat_r, cat_n, cat_l, true_and, and_true, List.length_cons, List.length_nil, Nat.zero_add, Int.reduceToNat, Int32.reduceOfInt, Nat.reduceAdd, Nat.reduceDiv, Nat.reduceMod, Nat.reduceMul, Nat.reduceLeDiff, reduceIte, r_gr_wi, r_gl_wi, r_gk_wi, r_gn_wi, r_gi_wr, r_gl_wr, r_gk_wr, r_gn_wr, r_gr_wa, r_gl_wa, r_gk_wa, r_gn_wa, r_R_isMatter, kO_s ha]
    refine hP.1 _ _ s_R_isMatter_17 _ _ _ _ _ ?_
    simp only [g_R_isMatter_17, blk, stp, lg, ls0, lk, ls1, ls2, kI_i, kL_l, kR_r, kR_n, kR_o, s1I_i, s2I_i, s1L_l, s2L_l, s1R_r, s1R_n, s1R_o, s1A_a, cmpc, popn, rf_s, rf_n, cat_i, cat_r, cat_n, cat_l, true_and, and_true, List.length_cons, List.length_nil, Nat.zero_add, Int.reduceToNat, Int32.reduceOfInt, Nat.reduceAdd, Nat.reduceDiv, Nat.reduceMod, Nat.reduceMul, Nat.reduceLeDiff, reduceIte, r_gr_wi, r_gl_wi, r_gk_wi, r_gn_wi, r_gi_wr, r_gl_wr, r_gk_wr, r_gn_wr, r_gr_wa, r_gl_wa, r_gk_wa, r_gn_wa, r_R_isMatter, kO_s ha]
    (first | exact leafF (by simp only [belF, decide_eq_false_iff_not, Int32.lt_iff_toInt_lt, Int32.le_iff_toInt_le] at *; omega) | exact leafT (by simp only [belF, decide_eq_true_eq, Int32.lt_iff_toInt_lt, Int32.le_iff_toInt_le] at *; omega))
  · skip
    refine ⟨fun hc => ?_, fun hc => ?_⟩
    · refine hP.1 _ _ s_R_isMatter_16 _ _ _ _ _ ?_
      simp only [g_R_isMatter_16, blk, stp, lg, ls0, lk, ls1, ls2, kI_i, kL_l, kR_r, kR_n, kR_o, s1I_i, s2I_i, s1L_l, s2L_l, s1R_r, s1R_n, s1R_o, s1A_a, cmpc, popn, rf_s, rf_n, cat_i, cat_r, cat_n, cat_l, true_and, and_true, List.length_cons, List.length_nil, Nat.zero_add, Int.reduceToNat, Int32.reduceOfInt, Nat.reduceAdd, Nat.reduceDiv, Nat.reduceMod, Nat.reduceMul, Nat.reduceLeDiff, reduceIte, r_gr_wi, r_gl_wi, r_gk_wi, r_gn_wi, r_gi_wr, r_gl_wr, r_gk_wr, r_gn_wr, r_gr_wa, r_gl_wa, r_gk_wa, r_gn_wa, r_R_isMatter, kO_s ha]
      refine hP.1 _ _ s_R_isMatter_17 _ _ _ _ _ ?_
      simp only [g_R_isMatter_17, blk, stp, lg, ls0, lk, ls1, ls2, kI_i, kL_l, kR_r, kR_n, kR_o, s1I_i, s2I_i, s1L_l, s2L_l, s1R_r, s1R_n, s1R_o, s1A_a, cmpc, popn, rf_s, rf_n, cat_i, cat_r, cat_n, cat_l, true_and, and_true, List.length_cons, List.length_nil, Nat.zero_add, Int.reduceToNat, Int32.reduceOfInt, Nat.reduceAdd, Nat.reduceDiv, Nat.reduceMod, Nat.reduceMul, Nat.reduceLeDiff, reduceIte, r_gr_wi, r_gl_wi, r_gk_wi, r_gn_wi, r_gi_wr, r_gl_wr, r_gk_wr, r_gn_wr, r_gr_wa, r_gl_wa, r_gk_wa, r_gn_wa, r_R_isMatter, kO_s ha]
      (first | exact leafF (by simp only [belF, decide_eq_false_iff_not, Int32.lt_iff_toInt_lt, Int32.le_iff_toInt_le] at *; omega) | exact leafT (by simp only [belF, decide_eq_true_eq, Int32.lt_iff_toInt_lt, Int32.le_iff_toInt_le] at *; omega))
    · skip
      refine hP.1 _ _ s_R_isMatter_17 _ _ _ _ _ ?_
      simp only [g_R_isMatter_17, blk, stp, lg, ls0, lk, ls1, ls2, kI_i, kL_l, kR_r, kR_n, kR_o, s1I_i, s2I_i, s1L_l, s2L_l, s1R_r, s1R_n, s1R_o, s1A_a, cmpc, popn, rf_s, rf_n, cat_i, cat_r, cat_n, cat_l, true_and, and_true, List.length_cons, List.length_nil, Nat.zero_add, Int.reduceToNat, Int32.reduceOfInt, Nat.reduceAdd, Nat.reduceDiv, Nat.reduceMod, Nat.reduceMul, Nat.reduceLeDiff, reduceIte, r_gr_wi, r_gl_wi, r_gk_wi, r_gn_wi, r_gi_wr, r_gl_wr, r_gk_wr, r_gn_wr, r_gr_wa, r_gl_wa, r_gk_wa, r_gn_wa, r_R_isMatter, kO_s ha]
      (first | exact leafF (by simp only [belF, decide_eq_false_iff_not, Int32.lt_iff_toInt_lt, Int32.le_iff_toInt_le] at *; omega) | exact leafT (by simp only [belF, decide_eq_true_eq, Int32.lt_iff_toInt_lt, Int32.le_iff_toInt_le] at *; omega))
