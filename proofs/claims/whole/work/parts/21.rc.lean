/-! ===== the reference: a loop, a call ===== -/
theorem wa_wi (h : AH) (a k : Nat) (f : Nat → Int32) (v : Int32) : wi (wa h a f) a k v = wa h a (up f k v) := by
  have e1 : gi (wa h a f) = up (gi h) a f := rfl
  have e2 : up (up (gi h) a f) a (up (up (gi h) a f a) k v) = up (gi h) a (up f k v) := by
    funext b j
    unfold up
    by_cases e : b = a
    · simp [e]
    · simp [e]
  exact congrArg (fun g => ((g, h.2) : AH)) e2
theorem wa_at (h : AH) (a : Nat) {f : Nat → Int32} (e : ∀ j, f j = gi h a j) : wa h a f = h := by
  have e2 : up (gi h) a f = gi h := by
    funext b j
    unfold up
    by_cases q : b = a
    · subst q
      simp [e]
    · simp [q]
  exact congrArg (fun g => ((g, h.2) : AH)) e2
theorem n_R_noLetters : mN 103 = 1 := rfl
theorem l_R_noLetters : mL 103 = 2 := rfl
theorem r_R_noLetters : mR 103 = none := rfl
theorem n_R_isPart : mN 53 = 3 := rfl
theorem l_R_isPart : mL 53 = 3 := rfl
theorem r_R_isPart : mR 53 = some .boolean := rfl
theorem c_R_noLetters {d : Nat} {h : AH} (hM : gk h 107 = some (.inl 12)) (hr : gr h 107 26 = some 128) (hk : gk h 128 = some (.inr (0, 128))) : Mz (d + 1) 103 [.ref 107] h 0 0 (fun r h' => r = some none ∧ h' = wa h 128 (fun j => if j < 128 then 0 else gi h 128 j)) := by
  refine mz_in (l := [some (.ref 107), none]) mk_R_noLetters n_R_noLetters rfl l_R_noLetters rfl (Nat.le_of_ble_eq_true rfl) fun P hP => ?_
  have loop : ∀ n i, n + i = 128 → P 2 [some (.ref 107), some (.int (nI i))] [] (wa h 128 (fun j => if j < i then 0 else gi h 128 j)) 0 0 := by
    intro n
    induction n with
    | zero =>
      intro i hi
      have hi2 : i = 128 := by omega
      subst hi2
      refine hP.1 _ _ s_R_noLetters_2 _ _ _ _ _ ?_
      simp only [g_R_noLetters_2, blk, stp, lg, ls0, lk, ls1, ls2, kI_i, kL_l, kR_r, kR_n, kR_o, s1I_i, s2I_i, s1L_l, s2L_l, s1R_r, s1R_n, s1R_o, s1A_a, cmpc, popn, rf_s, rf_n, cat_i, cat_r, cat_n, cat_l, true_and, and_true, List.length_cons, List.length_nil, Nat.zero_add, Int.reduceToNat, Int32.reduceOfInt, Nat.reduceAdd, Nat.reduceDiv, Nat.reduceMod, Nat.reduceMul, Nat.reduceLeDiff, reduceIte, r_gr_wi, r_gl_wi, r_gk_wi, r_gn_wi, r_gi_wr, r_gl_wr, r_gk_wr, r_gn_wr, r_gr_wa, r_gl_wa, r_gk_wa, r_gn_wa, kO_s hM, hr, kA_s hk]
      refine ⟨fun _ => ?_, fun c => absurd (nI_le (a := 128) (b := 128) (Nat.le_refl _) (by decide)) c⟩
      refine hP.1 _ _ s_R_noLetters_22 _ _ _ _ _ ?_
      simp only [g_R_noLetters_22, blk, stp, lg, ls0, lk, ls1, ls2, kI_i, kL_l, kR_r, kR_n, kR_o, s1I_i, s2I_i, s1L_l, s2L_l, s1R_r, s1R_n, s1R_o, s1A_a, cmpc, popn, rf_s, rf_n, cat_i, cat_r, cat_n, cat_l, true_and, and_true, List.length_cons, List.length_nil, Nat.zero_add, Int.reduceToNat, Int32.reduceOfInt, Nat.reduceAdd, Nat.reduceDiv, Nat.reduceMod, Nat.reduceMul, Nat.reduceLeDiff, reduceIte, r_gr_wi, r_gl_wi, r_gk_wi, r_gn_wi, r_gi_wr, r_gl_wr, r_gk_wr, r_gn_wr, r_gr_wa, r_gl_wa, r_gk_wa, r_gn_wa, r_R_noLetters]
      exact trivial
    | succ n ih =>
      intro i hi
      refine hP.1 _ _ s_R_noLetters_2 _ _ _ _ _ ?_
      simp only [g_R_noLetters_2, blk, stp, lg, ls0, lk, ls1, ls2, kI_i, kL_l, kR_r, kR_n, kR_o, s1I_i, s2I_i, s1L_l, s2L_l, s1R_r, s1R_n, s1R_o, s1A_a, cmpc, popn, rf_s, rf_n, cat_i, cat_r, cat_n, cat_l, true_and, and_true, List.length_cons, List.length_nil, Nat.zero_add, Int.reduceToNat, Int32.reduceOfInt, Nat.reduceAdd, Nat.reduceDiv, Nat.reduceMod, Nat.reduceMul, Nat.reduceLeDiff, reduceIte, r_gr_wi, r_gl_wi, r_gk_wi, r_gn_wi, r_gi_wr, r_gl_wr, r_gk_wr, r_gn_wr, r_gr_wa, r_gl_wa, r_gk_wa, r_gn_wa, kO_s hM, hr, kA_s hk]
      refine ⟨fun c => absurd c (nI_ge (a := i) (b := 128) (by omega) (by decide)), fun _ => ?_⟩
      have ei : ix (nI i) = i := nI_clamp (by omega)
      refine ⟨⟨nI_pos' (by omega), by rw [ei]; omega⟩, ?_⟩
      rw [wa_wi, ← nI_succ, ei]
      have e : up (fun j => if j < i then 0 else gi h 128 j) i 0 = fun j => if j < i + 1 then 0 else gi h 128 j := by
        funext j
        unfold up
        by_cases hj : j = i
        · rw [if_pos hj, if_pos (by omega)]
        · rw [if_neg hj]
          show (if j < i then _ else _) = _
          by_cases hj2 : j < i
          · rw [if_pos hj2, if_pos (by omega)]
          · rw [if_neg hj2, if_neg (by omega)]
      rw [e]
      exact ih (i + 1) (by omega)
  refine hP.1 _ _ s_R_noLetters_0 _ _ _ _ _ ?_
  simp only [g_R_noLetters_0, blk, stp, lg, ls0, lk, ls1, ls2, kI_i, kL_l, kR_r, kR_n, kR_o, s1I_i, s2I_i, s1L_l, s2L_l, s1R_r, s1R_n, s1R_o, s1A_a, cmpc, popn, rf_s, rf_n, cat_i, cat_r, cat_n, cat_l, true_and, and_true, List.length_cons, List.length_nil, Nat.zero_add, Int.reduceToNat, Int32.reduceOfInt, Nat.reduceAdd, Nat.reduceDiv, Nat.reduceMod, Nat.reduceMul, Nat.reduceLeDiff, reduceIte, r_gr_wi, r_gl_wi, r_gk_wi, r_gn_wi, r_gi_wr, r_gl_wr, r_gk_wr, r_gn_wr, r_gr_wa, r_gl_wa, r_gk_wa, r_gn_wa]
  have go := loop 128 0 rfl
  rw [wa_at h 128 (fun j => if_neg (Nat.not_lt_zero j)), nI_0] at go
  exact ⟨by decide, go⟩
theorem c_R_isPart {d : Nat} {m p : Int32} {h : AH} (hM : gk h 107 = some (.inl 12)) (hr : gr h 107 5 = some 112) (hk : gk h 112 = some (.inr (0, 4))) (hm : ∃ n, n ≤ 4 ∧ gi h 107 19 = nI n) : Mz (d + 2) 53 [.ref 107, .int m, .int p] h 0 0 (fun r h' => r = some (some (.int (bI (belF m (gi h 107 19) && isInF p 0 (gi h 112 (ix m) - 1))))) ∧ h' = h) := by
  refine mz_in (l := [some (.ref 107), some (.int m), some (.int p)]) mk_R_isPart n_R_isPart rfl l_R_isPart rfl (Nat.le_of_ble_eq_true rfl) fun P hP => ?_
  refine hP.1 _ _ s_R_isPart_0 _ _ _ _ _ ?_
  simp only [g_R_isPart_0, blk, stp, lg, ls0, lk, ls1, ls2, kI_i, kL_l, kR_r, kR_n, kR_o, s1I_i, s2I_i, s1L_l, s2L_l, s1R_r, s1R_n, s1R_o, s1A_a, cmpc, popn, rf_s, rf_n, cat_i, cat_r, cat_n, cat_l, true_and, and_true, List.length_cons, List.length_nil, Nat.zero_add, Int.reduceToNat, Int32.reduceOfInt, Nat.reduceAdd, Nat.reduceDiv, Nat.reduceMod, Nat.reduceMul, Nat.reduceLeDiff, reduceIte, r_gr_wi, r_gl_wi, r_gk_wi, r_gn_wi, r_gi_wr, r_gl_wr, r_gk_wr, r_gn_wr, r_gr_wa, r_gl_wa, r_gk_wa, r_gn_wa, kO_s hM, hr, kA_s hk, hdO_s hM]
  refine ⟨_, _, _, c_R_isMatter hM, ⟨by omega, by omega⟩, ?_⟩
  rintro v h9 ⟨rfl, e2⟩
  rw [e2]
  simp only [blk, stp, lg, ls0, lk, ls1, ls2, kI_i, kL_l, kR_r, kR_n, kR_o, s1I_i, s2I_i, s1L_l, s2L_l, s1R_r, s1R_n, s1R_o, s1A_a, cmpc, popn, rf_s, rf_n, cat_i, cat_r, cat_n, cat_l, true_and, and_true, List.length_cons, List.length_nil, Nat.zero_add, Int.reduceToNat, Int32.reduceOfInt, Nat.reduceAdd, Nat.reduceDiv, Nat.reduceMod, Nat.reduceMul, Nat.reduceLeDiff, reduceIte, r_gr_wi, r_gl_wi, r_gk_wi, r_gn_wi, r_gi_wr, r_gl_wr, r_gk_wr, r_gn_wr, r_gr_wa, r_gl_wa, r_gk_wa, r_gn_wa, kO_s hM, hr, kA_s hk, hdO_s hM]
  refine ⟨fun hc => ?_, fun hc => ?_⟩
  · have e : belF m (gi h 107 19) = false := by
      cases q : belF m (gi h 107 19) with
      | false => rfl
      | true =>
        rw [q] at hc
        exact absurd hc (by decide)
    refine hP.1 _ _ s_R_isPart_28 _ _ _ _ _ ?_
    simp only [g_R_isPart_28, blk, stp, lg, ls0, lk, ls1, ls2, kI_i, kL_l, kR_r, kR_n, kR_o, s1I_i, s2I_i, s1L_l, s2L_l, s1R_r, s1R_n, s1R_o, s1A_a, cmpc, popn, rf_s, rf_n, cat_i, cat_r, cat_n, cat_l, true_and, and_true, List.length_cons, List.length_nil, Nat.zero_add, Int.reduceToNat, Int32.reduceOfInt, Nat.reduceAdd, Nat.reduceDiv, Nat.reduceMod, Nat.reduceMul, Nat.reduceLeDiff, reduceIte, r_gr_wi, r_gl_wi, r_gk_wi, r_gn_wi, r_gi_wr, r_gl_wr, r_gk_wr, r_gn_wr, r_gr_wa, r_gl_wa, r_gk_wa, r_gn_wa]
    refine hP.1 _ _ s_R_isPart_29 _ _ _ _ _ ?_
    simp only [g_R_isPart_29, blk, stp, lg, ls0, lk, ls1, ls2, kI_i, kL_l, kR_r, kR_n, kR_o, s1I_i, s2I_i, s1L_l, s2L_l, s1R_r, s1R_n, s1R_o, s1A_a, cmpc, popn, rf_s, rf_n, cat_i, cat_r, cat_n, cat_l, true_and, and_true, List.length_cons, List.length_nil, Nat.zero_add, Int.reduceToNat, Int32.reduceOfInt, Nat.reduceAdd, Nat.reduceDiv, Nat.reduceMod, Nat.reduceMul, Nat.reduceLeDiff, reduceIte, r_gr_wi, r_gl_wi, r_gk_wi, r_gn_wi, r_gi_wr, r_gl_wr, r_gk_wr, r_gn_wr, r_gr_wa, r_gl_wa, r_gk_wa, r_gn_wa, r_R_isPart]
    exact leafF (by rw [e]; rfl)
  · have e : belF m (gi h 107 19) = true := by
      cases q : belF m (gi h 107 19) with
      | true => rfl
      | false =>
        rw [q] at hc
        exact absurd rfl hc
    obtain ⟨n, hn, hg⟩ := hm
    have hin : inb m 4 := by
      have e3 := e
      rw [hg] at e3
      simp only [belF, decide_eq_true_eq, Int32.lt_iff_toInt_lt, Int32.le_iff_toInt_le] at e3
      rw [nI_toInt (by omega)] at e3
      refine ⟨by rw [Int32.le_iff_toInt_le]; exact e3.1, ?_⟩
      show m.toInt.toNat < 4
      have : (0 : Int32).toInt = 0 := rfl
      omega
    refine ⟨hin, _, _, _, c_R_isIn, ⟨by omega, by omega⟩, ?_⟩
    rintro v h9 ⟨rfl, e2⟩
    rw [e2]
    simp only [blk, stp, lg, ls0, lk, ls1, ls2, kI_i, kL_l, kR_r, kR_n, kR_o, s1I_i, s2I_i, s1L_l, s2L_l, s1R_r, s1R_n, s1R_o, s1A_a, cmpc, popn, rf_s, rf_n, cat_i, cat_r, cat_n, cat_l, true_and, and_true, List.length_cons, List.length_nil, Nat.zero_add, Int.reduceToNat, Int32.reduceOfInt, Nat.reduceAdd, Nat.reduceDiv, Nat.reduceMod, Nat.reduceMul, Nat.reduceLeDiff, reduceIte, r_gr_wi, r_gl_wi, r_gk_wi, r_gn_wi, r_gi_wr, r_gl_wr, r_gk_wr, r_gn_wr, r_gr_wa, r_gl_wa, r_gk_wa, r_gn_wa]
    refine ⟨fun hc => ?_, fun hc => ?_⟩
    · refine hP.1 _ _ s_R_isPart_28 _ _ _ _ _ ?_
      simp only [g_R_isPart_28, blk, stp, lg, ls0, lk, ls1, ls2, kI_i, kL_l, kR_r, kR_n, kR_o, s1I_i, s2I_i, s1L_l, s2L_l, s1R_r, s1R_n, s1R_o, s1A_a, cmpc, popn, rf_s, rf_n, cat_i, cat_r, cat_n, cat_l, true_and, and_true, List.length_cons, List.length_nil, Nat.zero_add, Int.reduceToNat, Int32.reduceOfInt, Nat.reduceAdd, Nat.reduceDiv, Nat.reduceMod, Nat.reduceMul, Nat.reduceLeDiff, reduceIte, r_gr_wi, r_gl_wi, r_gk_wi, r_gn_wi, r_gi_wr, r_gl_wr, r_gk_wr, r_gn_wr, r_gr_wa, r_gl_wa, r_gk_wa, r_gn_wa]
      refine hP.1 _ _ s_R_isPart_29 _ _ _ _ _ ?_
      simp only [g_R_isPart_29, blk, stp, lg, ls0, lk, ls1, ls2, kI_i, kL_l, kR_r, kR_n, kR_o, s1I_i, s2I_i, s1L_l, s2L_l, s1R_r, s1R_n, s1R_o, s1A_a, cmpc, popn, rf_s, rf_n, cat_i, cat_r, cat_n, cat_l, true_and, and_true, List.length_cons, List.length_nil, Nat.zero_add, Int.reduceToNat, Int32.reduceOfInt, Nat.reduceAdd, Nat.reduceDiv, Nat.reduceMod, Nat.reduceMul, Nat.reduceLeDiff, reduceIte, r_gr_wi, r_gl_wi, r_gk_wi, r_gn_wi, r_gi_wr, r_gl_wr, r_gk_wr, r_gn_wr, r_gr_wa, r_gl_wa, r_gk_wa, r_gn_wa, r_R_isPart]
      refine leafF ?_
      rw [e]
      cases q : isInF p 0 (gi h 112 (ix m) - 1) with
      | false => rfl
      | true =>
        rw [q] at hc
        exact absurd hc (by decide)
    · refine hP.1 _ _ s_R_isPart_29 _ _ _ _ _ ?_
      simp only [g_R_isPart_29, blk, stp, lg, ls0, lk, ls1, ls2, kI_i, kL_l, kR_r, kR_n, kR_o, s1I_i, s2I_i, s1L_l, s2L_l, s1R_r, s1R_n, s1R_o, s1A_a, cmpc, popn, rf_s, rf_n, cat_i, cat_r, cat_n, cat_l, true_and, and_true, List.length_cons, List.length_nil, Nat.zero_add, Int.reduceToNat, Int32.reduceOfInt, Nat.reduceAdd, Nat.reduceDiv, Nat.reduceMod, Nat.reduceMul, Nat.reduceLeDiff, reduceIte, r_gr_wi, r_gl_wi, r_gk_wi, r_gn_wi, r_gi_wr, r_gl_wr, r_gk_wr, r_gn_wr, r_gr_wa, r_gl_wa, r_gk_wa, r_gn_wa, r_R_isPart]
      refine leafT ?_
      rw [e]
      cases q : isInF p 0 (gi h 112 (ix m) - 1) with
      | true => rfl
      | false =>
        rw [q] at hc
        exact absurd rfl hc
