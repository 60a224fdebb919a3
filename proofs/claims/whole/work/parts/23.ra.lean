/-! ===== the reference's readers of matters ===== -/
theorem n_R_wayOf : mN 68 = 4 := rfl
theorem l_R_wayOf : mL 68 = 4 := rfl
theorem r_R_wayOf : mR 68 = some .int := rfl
theorem n_R_every : mN 72 = 2 := rfl
theorem l_R_every : mL 72 = 2 := rfl
theorem r_R_every : mR 72 = some .int := rfl
theorem n_R_isWay : mN 54 = 4 := rfl
theorem l_R_isWay : mL 54 = 4 := rfl
theorem r_R_isWay : mR 54 = some .boolean := rfl
def wayF (n x p : Int32) : Int32 := (x >>> (2 * (n - 1 - p) &&& 31)) &&& 3
theorem c_R_wayOf {d : Nat} {m x p : Int32} {h : AH} (L : Lay h) (hm : inb m 4) : Mz (d + 2) 68 [.ref 107, .int m, .int x, .int p] h 0 0 (fun r h' => r = some (some (.int (wayF (gi h 112 (ix m)) x p))) ∧ h' = h) := by
  refine mz_in (l := [some (.ref 107), some (.int m), some (.int x), some (.int p)]) mk_R_wayOf n_R_wayOf rfl l_R_wayOf rfl (Nat.le_of_ble_eq_true rfl) fun P hP => ?_
  refine hP.1 _ _ s_R_wayOf_0 _ _ _ _ _ ?_
  simp only [g_R_wayOf_0, blk, stp, lg, ls0, lk, ls1, ls2, kI_i, kL_l, kR_r, kR_n, kR_o, s1I_i, s2I_i, s1L_l, s2L_l, s1R_r, s1R_n, s1R_o, s1A_a, cmpc, popn, rf_s, rf_n, cat_i, cat_r, cat_n, cat_l, true_and, and_true, List.length_cons, List.length_nil, Nat.zero_add, Int.reduceToNat, Int32.reduceOfInt, Nat.reduceAdd, Nat.reduceDiv, Nat.reduceMod, Nat.reduceMul, Nat.reduceLeDiff, reduceIte, r_gr_wi, r_gl_wi, r_gk_wi, r_gn_wi, r_gi_wr, r_gl_wr, r_gk_wr, r_gn_wr, r_gr_wa, r_gl_wa, r_gk_wa, r_gn_wa, kO_s (k107 L), f107_5 L, kA_s (k112 L), r_R_wayOf]
  refine ⟨hm, _, _, _, c_R_wayIn, ⟨by omega, by omega⟩, ?_⟩
  rintro v h9 ⟨rfl, e2⟩
  rw [e2]
  exact ⟨trivial, rfl, rfl⟩
theorem c_R_every {d : Nat} {m : Int32} {h : AH} (L : Lay h) (hm : inb m 4) : Mz (d + 1) 72 [.ref 107, .int m] h 0 0 (fun r h' => r = some (some (.int ((1 <<< (gi h 112 (ix m) &&& 31)) - 1))) ∧ h' = h) := by
  refine mz_in (l := [some (.ref 107), some (.int m)]) mk_R_every n_R_every rfl l_R_every rfl (Nat.le_of_ble_eq_true rfl) fun P hP => ?_
  refine hP.1 _ _ s_R_every_0 _ _ _ _ _ ?_
  simp only [g_R_every_0, blk, stp, lg, ls0, lk, ls1, ls2, kI_i, kL_l, kR_r, kR_n, kR_o, s1I_i, s2I_i, s1L_l, s2L_l, s1R_r, s1R_n, s1R_o, s1A_a, cmpc, popn, rf_s, rf_n, cat_i, cat_r, cat_n, cat_l, true_and, and_true, List.length_cons, List.length_nil, Nat.zero_add, Int.reduceToNat, Int32.reduceOfInt, Nat.reduceAdd, Nat.reduceDiv, Nat.reduceMod, Nat.reduceMul, Nat.reduceLeDiff, reduceIte, r_gr_wi, r_gl_wi, r_gk_wi, r_gn_wi, r_gi_wr, r_gl_wr, r_gk_wr, r_gn_wr, r_gr_wa, r_gl_wa, r_gk_wa, r_gn_wa, kO_s (k107 L), f107_5 L, kA_s (k112 L), r_R_every]
  exact ⟨hm, trivial⟩
