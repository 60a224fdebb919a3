/-! ===== the class: a new matter ===== -/
theorem n_T_matter : mN 5 = 3 := rfl
theorem l_T_matter : mL 5 = 3 := rfl
theorem r_T_matter : mR 5 = some .int := rfl
theorem n_Ma_init : mN 174 = 3 := rfl
theorem l_Ma_init : mL 174 = 4 := rfl
theorem r_Ma_init : mR 174 = none := rfl
theorem n_Ma_slotsIn : mN 175 = 3 := rfl
theorem l_Ma_slotsIn : mL 175 = 6 := rfl
theorem r_Ma_slotsIn : mR 175 = some .int := rfl
theorem r_al_k (h : AH) (kd : Nat ⊕ (Nat × Nat)) {n : Nat} (g : gn h = n) : gn (al h kd) = n + 1 ∧ gk (al h kd) n = some kd ∧ gi (al h kd) n = (fun _ => 0) ∧ gr (al h kd) n = (fun _ => none) ∧ ∀ a, a ≠ n → gk (al h kd) a = gk h a ∧ gi (al h kd) a = gi h a ∧ gr (al h kd) a = gr h a ∧ gl (al h kd) a = gl h a := by
  subst g
  refine ⟨rfl, up_self _ _ _, up_self _ _ _, up_self _ _ _, fun a q => ⟨if_neg q, if_neg q, if_neg q, if_neg q⟩⟩
/-- what stands behind an array was made and laid down -/
def NA (H H' : AH) (b k : Nat) (kd : Nat ⊕ (Nat × Nat)) (n : Nat) : Prop := gn H' = n + 1 ∧ gk H' n = some kd ∧ gi H' n = (fun _ => 0) ∧ gr H' b k = some n ∧ (∀ a, a ≠ n → gk H' a = gk H a ∧ gi H' a = gi H a ∧ gl H' a = gl H a) ∧ ∀ a j, a ≠ n → ¬ (a = b ∧ j = k) → gr H' a j = gr H a j
theorem na_of (H : AH) {b k n : Nat} (kd : Nat ⊕ (Nat × Nat)) (g : gn H = n) (hb : b ≠ n) : NA H (wr (al H kd) b k (some n)) b k kd n := by
  obtain ⟨a1, a2, a3, a4, a5⟩ := r_al_k H kd g
  refine ⟨a1, a2, a3, r_wr_eq _ _ _ _, fun a q => ⟨(a5 a q).1, (a5 a q).2.1, (a5 a q).2.2.2⟩, fun a j q z => ?_⟩
  rw [r_wr_ne _ _ z, (a5 a q).2.2.1]
/-- rows of five -/
def NM (H H' : AH) (b n : Nat) : Prop := gn H' = n + 9 ∧ gk H' n = some (.inr (7, 8)) ∧ (∀ e, e < 8 → gr H' n e = some (n + 1 + e) ∧ gk H' (n + 1 + e) = some (.inr (0, 5)) ∧ gi H' (n + 1 + e) = (fun _ => 0)) ∧ gr H' b 5 = some n ∧ (∀ a, ¬ (n ≤ a ∧ a ≤ n + 8) → gk H' a = gk H a ∧ gi H' a = gi H a ∧ gl H' a = gl H a) ∧ ∀ a j, ¬ (n ≤ a ∧ a ≤ n + 8) → ¬ (a = b ∧ j = 5) → gr H' a j = gr H a j
theorem nm_of (H : AH) {b n : Nat} (g : gn H = n) (hb : b < n) : NM H (wr (alm H 8 5) b 5 (some n)) b n := by
  subst g
  have gka : ∀ a, gk (alm H 8 5) a = if a = gn H then some (.inr (7, 8)) else if gn H < a ∧ a ≤ gn H + 8 then some (.inr (0, 5)) else gk H a := fun a => rfl
  have gia : ∀ a, gi (alm H 8 5) a = if gn H ≤ a ∧ a ≤ gn H + 8 then (fun _ => 0) else gi H a := fun a => rfl
  have gra : ∀ a, gr (alm H 8 5) a = if a = gn H then (fun j => if j < 8 then some (gn H + 1 + j) else none) else if gn H < a ∧ a ≤ gn H + 8 then (fun _ => none) else gr H a := fun a => rfl
  have gla : ∀ a, gl (alm H 8 5) a = if gn H ≤ a ∧ a ≤ gn H + 8 then (fun _ => 0) else gl H a := fun a => rfl
  have gna : gn (alm H 8 5) = gn H + 1 + 8 := rfl
  refine ⟨gna, ?_, fun e he => ⟨?_, ?_, ?_⟩, r_wr_eq _ _ _ _, fun a q => ⟨?_, ?_, ?_⟩, fun a j q z => ?_⟩
  · show gk (alm H 8 5) (gn H) = _
    rw [gka, if_pos rfl]
  · rw [r_wr_ne _ _ (by omega), gra, if_pos rfl]
    exact if_pos he
  · show gk (alm H 8 5) _ = _
    rw [gka, if_neg (by omega), if_pos (by omega)]
  · show gi (alm H 8 5) _ = _
    rw [gia, if_pos (by omega)]
  · show gk (alm H 8 5) _ = _
    rw [gka, if_neg (by omega), if_neg (by omega)]
  · show gi (alm H 8 5) _ = _
    rw [gia, if_neg q]
  · show gl (alm H 8 5) _ = _
    rw [gla, if_neg q]
  · rw [r_wr_ne _ _ z, gra, if_neg (by omega), if_neg (by omega)]
section
variable {h : AH} {s : St} {d c : Nat} {bm : Nat → Nat}
theorem c_Ma_slotsIn {x p w : Nat} (hp : 1 ≤ p ∧ p ≤ 5) (hw : w ≤ 4) (hx : x < 1024) : Mz (d + 2) 175 [.int (nI x), .int (nI p), .int (nI w)] h 0 0 (Rt (nI (slN p w x)) h) := by
  refine mz_in (l := [some (.int (nI x)), some (.int (nI p)), some (.int (nI w)), none, none, none]) mk_Ma_slotsIn n_Ma_slotsIn rfl l_Ma_slotsIn rfl (Nat.le_of_ble_eq_true rfl) fun P hP => ?_
  have loop : ∀ n k (x5 : Option Value), k + n = p → (∀ j, j < k → wyN p x j < w) → P 5 [some (.int (nI x)), some (.int (nI p)), some (.int (nI w)), some (.int (nI (orN k (fun j => 1 <<< (4 * j + wyN p x j))))), some (.int (nI k)), x5] [] h 0 0 := by
    intro n
    induction n using Nat.strongRecOn with
    | _ n ih =>
      intro k x5 hk hI
      refine hP.1 _ _ s_Ma_slotsIn_5 _ _ _ _ _ ?_
      simp (maxSteps := 1000000) (disch := omega) only [g_Ma_slotsIn_5, slk, List.map_cons, List.map_nil, List.sum_cons, List.sum_nil, vc_i, vc_r, vc_n, vc_l, vc_o, Nat.add_zero, kO_e, kA_e, hdO_a, eq_self, blk, stp, lg, ls0, lk, ls1, ls2, kI_i, kL_l, kR_r, kR_n, kR_o, s1I_i, s2I_i, s1L_l, s2L_l, s1R_r, s1R_n, s1R_o, s1A_a, cmpc, popn, swt, rf_s, rf_n, cat_i, cat_r, cat_n, cat_l, true_and, and_true, List.length_cons, List.length_nil, Nat.zero_add, Int.reduceToNat, Nat.reduceAdd, Nat.reduceDiv, Nat.reduceMod, Nat.reduceMul, Nat.reduceSub, Nat.reduceLeDiff, Nat.reduceLT, Nat.reduceEqDiff, ↓reduceIte, r_gr_wi, r_gl_wi, r_gk_wi, r_gn_wi, r_wi_eq, r_wi_ne, r_wi_nj, r_gi_wr, r_gl_wr, r_gk_wr, r_gn_wr, r_gr_wa, r_gl_wa, r_gk_wa, r_gn_wa, aa_e, as_e, al_e, u_lt, u_le, u_gt, u_ge, u_lt0, u_le0, u_gt0, u_ge0, Classical.not_not, not_true_eq_false, not_false_eq_true, oi_n, oi_m, n_dec, nI_add, pk_mul, n_sub, n_eq, n_le, n_lt, n_eq0, n_lt0, n_le0, n_0lt, n_0le, n_eqm, m_eqn, n_ltm, n_and, n_or, n_xor, n_shl, n_shr, tb1, tb0, bP_1, bP_0, bP_n0, ix_n, inb_n, u_eq, u_eqm]
      refine ⟨fun hc => ?_, fun hc => ?_⟩
      · have e1 : k = p := by omega
        subst e1
        refine hP.1 _ _ s_Ma_slotsIn_51 _ _ _ _ _ ?_
        simp (maxSteps := 1000000) (disch := omega) only [g_Ma_slotsIn_51, slk, List.map_cons, List.map_nil, List.sum_cons, List.sum_nil, vc_i, vc_r, vc_n, vc_l, vc_o, Nat.add_zero, kO_e, kA_e, hdO_a, eq_self, blk, stp, lg, ls0, lk, ls1, ls2, kI_i, kL_l, kR_r, kR_n, kR_o, s1I_i, s2I_i, s1L_l, s2L_l, s1R_r, s1R_n, s1R_o, s1A_a, cmpc, popn, swt, rf_s, rf_n, cat_i, cat_r, cat_n, cat_l, true_and, and_true, List.length_cons, List.length_nil, Nat.zero_add, Int.reduceToNat, Nat.reduceAdd, Nat.reduceDiv, Nat.reduceMod, Nat.reduceMul, Nat.reduceSub, Nat.reduceLeDiff, Nat.reduceLT, Nat.reduceEqDiff, ↓reduceIte, r_gr_wi, r_gl_wi, r_gk_wi, r_gn_wi, r_wi_eq, r_wi_ne, r_wi_nj, r_gi_wr, r_gl_wr, r_gk_wr, r_gn_wr, r_gr_wa, r_gl_wa, r_gk_wa, r_gn_wa, aa_e, as_e, al_e, u_lt, u_le, u_gt, u_ge, u_lt0, u_le0, u_gt0, u_ge0, Classical.not_not, not_true_eq_false, not_false_eq_true, oi_n, oi_m, n_dec, nI_add, pk_mul, n_sub, n_eq, n_le, n_lt, n_eq0, n_lt0, n_le0, n_0lt, n_0le, n_eqm, m_eqn, n_ltm, n_and, n_or, n_xor, n_shl, n_shr, tb1, tb0, bP_1, bP_0, bP_n0, ix_n, inb_n, u_eq, u_eqm]
        exact lfI r_Ma_slotsIn (by rw [show slN k w x = _ from nif_t hI]) rfl
      · have w4 := wyN_lt p x k
        have ew : x >>> (2 * (p - 1 - k)) &&& 3 = wyN p x k := rfl
        refine hP.1 _ _ s_Ma_slotsIn_11 _ _ _ _ _ ?_
        simp (maxSteps := 1000000) (disch := omega) only [g_Ma_slotsIn_11, slk, List.map_cons, List.map_nil, List.sum_cons, List.sum_nil, vc_i, vc_r, vc_n, vc_l, vc_o, Nat.add_zero, kO_e, kA_e, hdO_a, eq_self, blk, stp, lg, ls0, lk, ls1, ls2, kI_i, kL_l, kR_r, kR_n, kR_o, s1I_i, s2I_i, s1L_l, s2L_l, s1R_r, s1R_n, s1R_o, s1A_a, cmpc, popn, swt, rf_s, rf_n, cat_i, cat_r, cat_n, cat_l, true_and, and_true, List.length_cons, List.length_nil, Nat.zero_add, Int.reduceToNat, Nat.reduceAdd, Nat.reduceDiv, Nat.reduceMod, Nat.reduceMul, Nat.reduceSub, Nat.reduceLeDiff, Nat.reduceLT, Nat.reduceEqDiff, ↓reduceIte, r_gr_wi, r_gl_wi, r_gk_wi, r_gn_wi, r_wi_eq, r_wi_ne, r_wi_nj, r_gi_wr, r_gl_wr, r_gk_wr, r_gn_wr, r_gr_wa, r_gl_wa, r_gk_wa, r_gn_wa, aa_e, as_e, al_e, u_lt, u_le, u_gt, u_ge, u_lt0, u_le0, u_gt0, u_ge0, Classical.not_not, not_true_eq_false, not_false_eq_true, oi_n, oi_m, n_dec, nI_add, pk_mul, n_sub, n_eq, n_le, n_lt, n_eq0, n_lt0, n_le0, n_0lt, n_0le, n_eqm, m_eqn, n_ltm, n_and, n_or, n_xor, n_shl, n_shr, tb1, tb0, bP_1, bP_0, bP_n0, ix_n, inb_n, u_eq, u_eqm, ew]
        refine ⟨fun q => ?_, fun q => ?_⟩
        · refine hP.1 _ _ s_Ma_slotsIn_33 _ _ _ _ _ ?_
          simp (maxSteps := 1000000) (disch := omega) only [g_Ma_slotsIn_33, slk, List.map_cons, List.map_nil, List.sum_cons, List.sum_nil, vc_i, vc_r, vc_n, vc_l, vc_o, Nat.add_zero, kO_e, kA_e, hdO_a, eq_self, blk, stp, lg, ls0, lk, ls1, ls2, kI_i, kL_l, kR_r, kR_n, kR_o, s1I_i, s2I_i, s1L_l, s2L_l, s1R_r, s1R_n, s1R_o, s1A_a, cmpc, popn, swt, rf_s, rf_n, cat_i, cat_r, cat_n, cat_l, true_and, and_true, List.length_cons, List.length_nil, Nat.zero_add, Int.reduceToNat, Nat.reduceAdd, Nat.reduceDiv, Nat.reduceMod, Nat.reduceMul, Nat.reduceSub, Nat.reduceLeDiff, Nat.reduceLT, Nat.reduceEqDiff, ↓reduceIte, r_gr_wi, r_gl_wi, r_gk_wi, r_gn_wi, r_wi_eq, r_wi_ne, r_wi_nj, r_gi_wr, r_gl_wr, r_gk_wr, r_gn_wr, r_gr_wa, r_gl_wa, r_gk_wa, r_gn_wa, aa_e, as_e, al_e, u_lt, u_le, u_gt, u_ge, u_lt0, u_le0, u_gt0, u_ge0, Classical.not_not, not_true_eq_false, not_false_eq_true, oi_n, oi_m, n_dec, nI_add, pk_mul, n_sub, n_eq, n_le, n_lt, n_eq0, n_lt0, n_le0, n_0lt, n_0le, n_eqm, m_eqn, n_ltm, n_and, n_or, n_xor, n_shl, n_shr, tb1, tb0, bP_1, bP_0, bP_n0, ix_n, inb_n, u_eq, u_eqm, ew]
          refine wc (c_T_slot) ⟨by omega, by omega⟩ ?_
          simp (maxSteps := 1000000) (disch := omega) only [slk, List.map_cons, List.map_nil, List.sum_cons, List.sum_nil, vc_i, vc_r, vc_n, vc_l, vc_o, Nat.add_zero, kO_e, kA_e, hdO_a, eq_self, blk, stp, lg, ls0, lk, ls1, ls2, kI_i, kL_l, kR_r, kR_n, kR_o, s1I_i, s2I_i, s1L_l, s2L_l, s1R_r, s1R_n, s1R_o, s1A_a, cmpc, popn, swt, rf_s, rf_n, cat_i, cat_r, cat_n, cat_l, true_and, and_true, List.length_cons, List.length_nil, Nat.zero_add, Int.reduceToNat, Nat.reduceAdd, Nat.reduceDiv, Nat.reduceMod, Nat.reduceMul, Nat.reduceSub, Nat.reduceLeDiff, Nat.reduceLT, Nat.reduceEqDiff, ↓reduceIte, r_gr_wi, r_gl_wi, r_gk_wi, r_gn_wi, r_wi_eq, r_wi_ne, r_wi_nj, r_gi_wr, r_gl_wr, r_gk_wr, r_gn_wr, r_gr_wa, r_gl_wa, r_gk_wa, r_gn_wa, aa_e, as_e, al_e, u_lt, u_le, u_gt, u_ge, u_lt0, u_le0, u_gt0, u_ge0, Classical.not_not, not_true_eq_false, not_false_eq_true, oi_n, oi_m, n_dec, nI_add, pk_mul, n_sub, n_eq, n_le, n_lt, n_eq0, n_lt0, n_le0, n_0lt, n_0le, n_eqm, m_eqn, n_ltm, n_and, n_or, n_xor, n_shl, n_shr, tb1, tb0, bP_1, bP_0, bP_n0, ix_n, inb_n, u_eq, u_eqm, ew]
          have e2 : orN (k + 1) (fun j => 1 <<< (4 * j + wyN p x j)) = orN k (fun j => 1 <<< (4 * j + wyN p x j)) ||| 1 <<< (4 * k + wyN p x k) := rfl
          rw [← e2]
          refine ih (n - 1) (by omega) (k + 1) _ (by omega) (fun j hj => ?_)
          by_cases z : j = k
          · rw [z]
            omega
          · exact hI j (by omega)
        · refine hP.1 _ _ s_Ma_slotsIn_31 _ _ _ _ _ ?_
          simp (maxSteps := 1000000) (disch := omega) only [g_Ma_slotsIn_31, slk, List.map_cons, List.map_nil, List.sum_cons, List.sum_nil, vc_i, vc_r, vc_n, vc_l, vc_o, Nat.add_zero, kO_e, kA_e, hdO_a, eq_self, blk, stp, lg, ls0, lk, ls1, ls2, kI_i, kL_l, kR_r, kR_n, kR_o, s1I_i, s2I_i, s1L_l, s2L_l, s1R_r, s1R_n, s1R_o, s1A_a, cmpc, popn, swt, rf_s, rf_n, cat_i, cat_r, cat_n, cat_l, true_and, and_true, List.length_cons, List.length_nil, Nat.zero_add, Int.reduceToNat, Nat.reduceAdd, Nat.reduceDiv, Nat.reduceMod, Nat.reduceMul, Nat.reduceSub, Nat.reduceLeDiff, Nat.reduceLT, Nat.reduceEqDiff, ↓reduceIte, r_gr_wi, r_gl_wi, r_gk_wi, r_gn_wi, r_wi_eq, r_wi_ne, r_wi_nj, r_gi_wr, r_gl_wr, r_gk_wr, r_gn_wr, r_gr_wa, r_gl_wa, r_gk_wa, r_gn_wa, aa_e, as_e, al_e, u_lt, u_le, u_gt, u_ge, u_lt0, u_le0, u_gt0, u_ge0, Classical.not_not, not_true_eq_false, not_false_eq_true, oi_n, oi_m, n_dec, nI_add, pk_mul, n_sub, n_eq, n_le, n_lt, n_eq0, n_lt0, n_le0, n_0lt, n_0le, n_eqm, m_eqn, n_ltm, n_and, n_or, n_xor, n_shl, n_shr, tb1, tb0, bP_1, bP_0, bP_n0, ix_n, inb_n, u_eq, u_eqm, ew]
          exact lfI r_Ma_slotsIn (by rw [sl_0 (fun z => by have := z k (by omega); omega)]) rfl
  refine hP.1 _ _ s_Ma_slotsIn_0 _ _ _ _ _ ?_
  simp (maxSteps := 1000000) (disch := omega) only [g_Ma_slotsIn_0, slk, List.map_cons, List.map_nil, List.sum_cons, List.sum_nil, vc_i, vc_r, vc_n, vc_l, vc_o, Nat.add_zero, kO_e, kA_e, hdO_a, eq_self, blk, stp, lg, ls0, lk, ls1, ls2, kI_i, kL_l, kR_r, kR_n, kR_o, s1I_i, s2I_i, s1L_l, s2L_l, s1R_r, s1R_n, s1R_o, s1A_a, cmpc, popn, swt, rf_s, rf_n, cat_i, cat_r, cat_n, cat_l, true_and, and_true, List.length_cons, List.length_nil, Nat.zero_add, Int.reduceToNat, Nat.reduceAdd, Nat.reduceDiv, Nat.reduceMod, Nat.reduceMul, Nat.reduceSub, Nat.reduceLeDiff, Nat.reduceLT, Nat.reduceEqDiff, ↓reduceIte, r_gr_wi, r_gl_wi, r_gk_wi, r_gn_wi, r_wi_eq, r_wi_ne, r_wi_nj, r_gi_wr, r_gl_wr, r_gk_wr, r_gn_wr, r_gr_wa, r_gl_wa, r_gk_wa, r_gn_wa, aa_e, as_e, al_e, u_lt, u_le, u_gt, u_ge, u_lt0, u_le0, u_gt0, u_ge0, Classical.not_not, not_true_eq_false, not_false_eq_true, oi_n, oi_m, n_dec, nI_add, pk_mul, n_sub, n_eq, n_le, n_lt, n_eq0, n_lt0, n_le0, n_0lt, n_0le, n_eqm, m_eqn, n_ltm, n_and, n_or, n_xor, n_shl, n_shr, tb1, tb0, bP_1, bP_0, bP_n0, ix_n, inb_n, u_eq, u_eqm]
  exact loop p 0 none (Nat.zero_add _) (fun j hj => absurd hj (Nat.not_lt_zero _))
/-- a matter that was made -/
def PMi (h : AH) (b p w : Nat) (r : Option (Option Value)) (H : AH) : Prop := r = some none ∧ Fg (fun a => a = b) (fun a _ => a = b) h H ∧ (∀ a, a < gn h → gl H a = gl h a) ∧ gn H = b + 15 ∧ MA H b p ∧ (gi H b 0 = nI p ∧ gi H b 1 = nI w ∧ gi H b 8 = nI 0 ∧ gi H b 9 = nI 0 ∧ gr H b 10 = none) ∧ (∀ x, x < 1 <<< (2 * p) → gi H (b + 14) x = nI (slN p w x)) ∧ (∀ e, e < 8 → gi H (b + 1) e = nI 0 ∧ gi H (b + 2) e = nI 0) ∧ ∀ e q, e < 8 → q < 5 → gi H (b + 4 + e) q = nI 1
theorem c_Ma_init {b p w : Nat} (hb : 164 < b) (hg : gn h = b + 1) (hk : gk h b = some (.inl 4)) (hi : gi h b = fun _ => 0) (hr : gr h b = fun _ => none) (hp : 1 ≤ p ∧ p ≤ 5) (hw : w ≤ 4) : Mz (d + 3) 174 [.ref b, .int (nI p), .int (nI w)] h 14 1168 (PMi h b p w) := by
  have b5 := sh_1024 hp.2
  have b20 : 20 ≤ b := by omega
  refine mz_in (l := [some (.ref b), some (.int (nI p)), some (.int (nI w)), none]) mk_Ma_init n_Ma_init rfl l_Ma_init rfl (Nat.le_of_ble_eq_true rfl) fun P hP => ?_
  have nb : ∀ k, 1 ≤ k → b ≠ b + k := fun k hk => by omega
  -- the two arrays of ways
  have a1 : gk (al h (.inr (0, 8))) b = some (.inl 4) := ((r_al_k h _ hg).2.2.2.2 b (nb 1 (by omega))).1.trans hk
  refine hP.1 _ _ sx_Ma_init_0 _ _ _ _ _ ?_
  simp (maxSteps := 1000000) (disch := omega) only [gx_Ma_init_0, slk, List.map_cons, List.map_nil, List.sum_cons, List.sum_nil, vc_i, vc_r, vc_n, vc_l, vc_o, Nat.add_zero, kO_e, kA_e, hdO_a, eq_self, blk, stp, lg, ls0, lk, ls1, ls2, kI_i, kL_l, kR_r, kR_n, kR_o, s1I_i, s2I_i, s1L_l, s2L_l, s1R_r, s1R_n, s1R_o, s1A_a, cmpc, popn, swt, rf_s, rf_n, cat_i, cat_r, cat_n, cat_l, true_and, and_true, List.length_cons, List.length_nil, Nat.zero_add, Int.reduceToNat, Nat.reduceAdd, Nat.reduceDiv, Nat.reduceMod, Nat.reduceMul, Nat.reduceSub, Nat.reduceLeDiff, Nat.reduceLT, Nat.reduceEqDiff, ↓reduceIte, r_gr_wi, r_gl_wi, r_gk_wi, r_gn_wi, r_wi_eq, r_wi_ne, r_wi_nj, r_gi_wr, r_gl_wr, r_gk_wr, r_gn_wr, r_gr_wa, r_gl_wa, r_gk_wa, r_gn_wa, aa_e, as_e, al_e, u_lt, u_le, u_gt, u_ge, u_lt0, u_le0, u_gt0, u_ge0, Classical.not_not, not_true_eq_false, not_false_eq_true, oi_n, oi_m, n_dec, nI_add, pk_mul, n_sub, n_eq, n_le, n_lt, n_eq0, n_lt0, n_le0, n_0lt, n_0le, n_eqm, m_eqn, n_ltm, n_and, n_or, n_xor, n_shl, n_shr, tb1, tb0, bP_1, bP_0, bP_n0, ix_n, inb_n, u_eq, u_eqm, a1, b20, hg, aty]
  have N1 := na_of h (b := b) (k := 3) (.inr (0, 8)) hg (nb 1 (by omega))
  generalize wr (al h (.inr (0, 8))) b 3 (some (b + 1)) = H1 at N1 ⊢
  have k1 : gk H1 b = some (.inl 4) := (N1.2.2.2.2.1 b (nb 1 (by omega))).1.trans hk
  have a2 : gk (al H1 (.inr (0, 8))) b = some (.inl 4) := ((r_al_k H1 _ N1.1).2.2.2.2 b (nb 2 (by omega))).1.trans k1
  refine hP.1 _ _ sx_Ma_init_12 _ _ _ _ _ ?_
  simp (maxSteps := 1000000) (disch := omega) only [gx_Ma_init_12, slk, List.map_cons, List.map_nil, List.sum_cons, List.sum_nil, vc_i, vc_r, vc_n, vc_l, vc_o, Nat.add_zero, kO_e, kA_e, hdO_a, eq_self, blk, stp, lg, ls0, lk, ls1, ls2, kI_i, kL_l, kR_r, kR_n, kR_o, s1I_i, s2I_i, s1L_l, s2L_l, s1R_r, s1R_n, s1R_o, s1A_a, cmpc, popn, swt, rf_s, rf_n, cat_i, cat_r, cat_n, cat_l, true_and, and_true, List.length_cons, List.length_nil, Nat.zero_add, Int.reduceToNat, Nat.reduceAdd, Nat.reduceDiv, Nat.reduceMod, Nat.reduceMul, Nat.reduceSub, Nat.reduceLeDiff, Nat.reduceLT, Nat.reduceEqDiff, ↓reduceIte, r_gr_wi, r_gl_wi, r_gk_wi, r_gn_wi, r_wi_eq, r_wi_ne, r_wi_nj, r_gi_wr, r_gl_wr, r_gk_wr, r_gn_wr, r_gr_wa, r_gl_wa, r_gk_wa, r_gn_wa, aa_e, as_e, al_e, u_lt, u_le, u_gt, u_ge, u_lt0, u_le0, u_gt0, u_ge0, Classical.not_not, not_true_eq_false, not_false_eq_true, oi_n, oi_m, n_dec, nI_add, pk_mul, n_sub, n_eq, n_le, n_lt, n_eq0, n_lt0, n_le0, n_0lt, n_0le, n_eqm, m_eqn, n_ltm, n_and, n_or, n_xor, n_shl, n_shr, tb1, tb0, bP_1, bP_0, bP_n0, ix_n, inb_n, u_eq, u_eqm, a2, b20, N1.1, aty]
  have N2 := na_of H1 (b := b) (k := 4) (.inr (0, 8)) N1.1 (nb 2 (by omega))
  generalize wr (al H1 (.inr (0, 8))) b 4 (some (b + 1 + 1)) = H2 at N2 ⊢
  have k2 : gk H2 b = some (.inl 4) := (N2.2.2.2.2.1 b (nb 2 (by omega))).1.trans k1
  -- the rows of cares
  have a3 : gk (alm H2 8 5) b = some (.inl 4) := by
    have g2 := N2.1
    show (if b = gn H2 then _ else if gn H2 < b ∧ b ≤ gn H2 + 8 then _ else gk H2 b) = _
    rw [if_neg (by omega), if_neg (by omega)]
    exact k2
  refine hP.1 _ _ sx_Ma_init_20 _ _ _ _ _ ?_
  simp (maxSteps := 1000000) (disch := omega) only [gx_Ma_init_20, slk, List.map_cons, List.map_nil, List.sum_cons, List.sum_nil, vc_i, vc_r, vc_n, vc_l, vc_o, Nat.add_zero, kO_e, kA_e, hdO_a, eq_self, blk, stp, lg, ls0, lk, ls1, ls2, kI_i, kL_l, kR_r, kR_n, kR_o, s1I_i, s2I_i, s1L_l, s2L_l, s1R_r, s1R_n, s1R_o, s1A_a, cmpc, popn, swt, rf_s, rf_n, cat_i, cat_r, cat_n, cat_l, true_and, and_true, List.length_cons, List.length_nil, Nat.zero_add, Int.reduceToNat, Nat.reduceAdd, Nat.reduceDiv, Nat.reduceMod, Nat.reduceMul, Nat.reduceSub, Nat.reduceLeDiff, Nat.reduceLT, Nat.reduceEqDiff, ↓reduceIte, r_gr_wi, r_gl_wi, r_gk_wi, r_gn_wi, r_wi_eq, r_wi_ne, r_wi_nj, r_gi_wr, r_gl_wr, r_gk_wr, r_gn_wr, r_gr_wa, r_gl_wa, r_gk_wa, r_gn_wa, aa_e, as_e, al_e, u_lt, u_le, u_gt, u_ge, u_lt0, u_le0, u_gt0, u_ge0, Classical.not_not, not_true_eq_false, not_false_eq_true, oi_n, oi_m, n_dec, nI_add, pk_mul, n_sub, n_eq, n_le, n_lt, n_eq0, n_lt0, n_le0, n_0lt, n_0le, n_eqm, m_eqn, n_ltm, n_and, n_or, n_xor, n_shl, n_shr, tb1, tb0, bP_1, bP_0, bP_n0, ix_n, inb_n, u_eq, u_eqm, a3, b20, N2.1]
  have N3 := nm_of H2 (b := b) N2.1 (by omega)
  generalize wr (alm H2 8 5) b 5 (some (b + 1 + 1 + 1)) = H3 at N3 ⊢
  have k3 : gk H3 b = some (.inl 4) := (N3.2.2.2.2.1 b (by omega)).1.trans k2
  have g3 : gn H3 = b + 12 := N3.1
  have a4 : gk (al H3 (.inr (0, 40))) b = some (.inl 4) := ((r_al_k H3 _ g3).2.2.2.2 b (nb 12 (by omega))).1.trans k3
  refine hP.1 _ _ sx_Ma_init_31 _ _ _ _ _ ?_
  simp (maxSteps := 1000000) (disch := omega) only [gx_Ma_init_31, slk, List.map_cons, List.map_nil, List.sum_cons, List.sum_nil, vc_i, vc_r, vc_n, vc_l, vc_o, Nat.add_zero, kO_e, kA_e, hdO_a, eq_self, blk, stp, lg, ls0, lk, ls1, ls2, kI_i, kL_l, kR_r, kR_n, kR_o, s1I_i, s2I_i, s1L_l, s2L_l, s1R_r, s1R_n, s1R_o, s1A_a, cmpc, popn, swt, rf_s, rf_n, cat_i, cat_r, cat_n, cat_l, true_and, and_true, List.length_cons, List.length_nil, Nat.zero_add, Int.reduceToNat, Nat.reduceAdd, Nat.reduceDiv, Nat.reduceMod, Nat.reduceMul, Nat.reduceSub, Nat.reduceLeDiff, Nat.reduceLT, Nat.reduceEqDiff, ↓reduceIte, r_gr_wi, r_gl_wi, r_gk_wi, r_gn_wi, r_wi_eq, r_wi_ne, r_wi_nj, r_gi_wr, r_gl_wr, r_gk_wr, r_gn_wr, r_gr_wa, r_gl_wa, r_gk_wa, r_gn_wa, aa_e, as_e, al_e, u_lt, u_le, u_gt, u_ge, u_lt0, u_le0, u_gt0, u_ge0, Classical.not_not, not_true_eq_false, not_false_eq_true, oi_n, oi_m, n_dec, nI_add, pk_mul, n_sub, n_eq, n_le, n_lt, n_eq0, n_lt0, n_le0, n_0lt, n_0le, n_eqm, m_eqn, n_ltm, n_and, n_or, n_xor, n_shl, n_shr, tb1, tb0, bP_1, bP_0, bP_n0, ix_n, inb_n, u_eq, u_eqm, a4, b20, g3, aty]
  have N4 := na_of H3 (b := b) (k := 6) (.inr (0, 40)) g3 (nb 12 (by omega))
  generalize wr (al H3 (.inr (0, 40))) b 6 (some (b + 12)) = H4 at N4 ⊢
  have k4 : gk H4 b = some (.inl 4) := (N4.2.2.2.2.1 b (nb 12 (by omega))).1.trans k3
  have a5 : gk (al H4 (.inr (0, 40))) b = some (.inl 4) := ((r_al_k H4 _ N4.1).2.2.2.2 b (nb 13 (by omega))).1.trans k4
  refine hP.1 _ _ sx_Ma_init_39 _ _ _ _ _ ?_
  simp (maxSteps := 1000000) (disch := omega) only [gx_Ma_init_39, slk, List.map_cons, List.map_nil, List.sum_cons, List.sum_nil, vc_i, vc_r, vc_n, vc_l, vc_o, Nat.add_zero, kO_e, kA_e, hdO_a, eq_self, blk, stp, lg, ls0, lk, ls1, ls2, kI_i, kL_l, kR_r, kR_n, kR_o, s1I_i, s2I_i, s1L_l, s2L_l, s1R_r, s1R_n, s1R_o, s1A_a, cmpc, popn, swt, rf_s, rf_n, cat_i, cat_r, cat_n, cat_l, true_and, and_true, List.length_cons, List.length_nil, Nat.zero_add, Int.reduceToNat, Nat.reduceAdd, Nat.reduceDiv, Nat.reduceMod, Nat.reduceMul, Nat.reduceSub, Nat.reduceLeDiff, Nat.reduceLT, Nat.reduceEqDiff, ↓reduceIte, r_gr_wi, r_gl_wi, r_gk_wi, r_gn_wi, r_wi_eq, r_wi_ne, r_wi_nj, r_gi_wr, r_gl_wr, r_gk_wr, r_gn_wr, r_gr_wa, r_gl_wa, r_gk_wa, r_gn_wa, aa_e, as_e, al_e, u_lt, u_le, u_gt, u_ge, u_lt0, u_le0, u_gt0, u_ge0, Classical.not_not, not_true_eq_false, not_false_eq_true, oi_n, oi_m, n_dec, nI_add, pk_mul, n_sub, n_eq, n_le, n_lt, n_eq0, n_lt0, n_le0, n_0lt, n_0le, n_eqm, m_eqn, n_ltm, n_and, n_or, n_xor, n_shl, n_shr, tb1, tb0, bP_1, bP_0, bP_n0, ix_n, inb_n, u_eq, u_eqm, a5, b20, N4.1, aty]
  have N5 := na_of H4 (b := b) (k := 7) (.inr (0, 40)) N4.1 (nb 13 (by omega))
  generalize wr (al H4 (.inr (0, 40))) b 7 (some (b + 12 + 1)) = H5 at N5 ⊢
  have k5 : gk H5 b = some (.inl 4) := (N5.2.2.2.2.1 b (nb 13 (by omega))).1.trans k4
  refine hP.1 _ _ sx_Ma_init_47 _ _ _ _ _ ?_
  simp (maxSteps := 1000000) (disch := omega) only [gx_Ma_init_47, slk, List.map_cons, List.map_nil, List.sum_cons, List.sum_nil, vc_i, vc_r, vc_n, vc_l, vc_o, Nat.add_zero, kO_e, kA_e, hdO_a, eq_self, blk, stp, lg, ls0, lk, ls1, ls2, kI_i, kL_l, kR_r, kR_n, kR_o, s1I_i, s2I_i, s1L_l, s2L_l, s1R_r, s1R_n, s1R_o, s1A_a, cmpc, popn, swt, rf_s, rf_n, cat_i, cat_r, cat_n, cat_l, true_and, and_true, List.length_cons, List.length_nil, Nat.zero_add, Int.reduceToNat, Nat.reduceAdd, Nat.reduceDiv, Nat.reduceMod, Nat.reduceMul, Nat.reduceSub, Nat.reduceLeDiff, Nat.reduceLT, Nat.reduceEqDiff, ↓reduceIte, r_gr_wi, r_gl_wi, r_gk_wi, r_gn_wi, r_wi_eq, r_wi_ne, r_wi_nj, r_gi_wr, r_gl_wr, r_gk_wr, r_gn_wr, r_gr_wa, r_gl_wa, r_gk_wa, r_gn_wa, aa_e, as_e, al_e, u_lt, u_le, u_gt, u_ge, u_lt0, u_le0, u_gt0, u_ge0, Classical.not_not, not_true_eq_false, not_false_eq_true, oi_n, oi_m, n_dec, nI_add, pk_mul, n_sub, n_eq, n_le, n_lt, n_eq0, n_lt0, n_le0, n_0lt, n_0le, n_eqm, m_eqn, n_ltm, n_and, n_or, n_xor, n_shl, n_shr, tb1, tb0, bP_1, bP_0, bP_n0, ix_n, inb_n, u_eq, u_eqm, k5, b20]
  refine hP.1 _ _ sx_Ma_init_52 _ _ _ _ _ ?_
  simp (maxSteps := 1000000) (disch := omega) only [gx_Ma_init_52, slk, List.map_cons, List.map_nil, List.sum_cons, List.sum_nil, vc_i, vc_r, vc_n, vc_l, vc_o, Nat.add_zero, kO_e, kA_e, hdO_a, eq_self, blk, stp, lg, ls0, lk, ls1, ls2, kI_i, kL_l, kR_r, kR_n, kR_o, s1I_i, s2I_i, s1L_l, s2L_l, s1R_r, s1R_n, s1R_o, s1A_a, cmpc, popn, swt, rf_s, rf_n, cat_i, cat_r, cat_n, cat_l, true_and, and_true, List.length_cons, List.length_nil, Nat.zero_add, Int.reduceToNat, Nat.reduceAdd, Nat.reduceDiv, Nat.reduceMod, Nat.reduceMul, Nat.reduceSub, Nat.reduceLeDiff, Nat.reduceLT, Nat.reduceEqDiff, ↓reduceIte, r_gr_wi, r_gl_wi, r_gk_wi, r_gn_wi, r_wi_eq, r_wi_ne, r_wi_nj, r_gi_wr, r_gl_wr, r_gk_wr, r_gn_wr, r_gr_wa, r_gl_wa, r_gk_wa, r_gn_wa, aa_e, as_e, al_e, u_lt, u_le, u_gt, u_ge, u_lt0, u_le0, u_gt0, u_ge0, Classical.not_not, not_true_eq_false, not_false_eq_true, oi_n, oi_m, n_dec, nI_add, pk_mul, n_sub, n_eq, n_le, n_lt, n_eq0, n_lt0, n_le0, n_0lt, n_0le, n_eqm, m_eqn, n_ltm, n_and, n_or, n_xor, n_shl, n_shr, tb1, tb0, bP_1, bP_0, bP_n0, ix_n, inb_n, u_eq, u_eqm, k5, b20]
  obtain ⟨H6, e6⟩ : ∃ H6, H6 = wi (wi H5 b 0 (nI p)) b 1 (nI w) := ⟨_, rfl⟩
  rw [← e6]
  have g6 : gn H6 = b + 14 := by rw [e6]; exact N5.1
  have gk6 : gk H6 = gk H5 := by rw [e6]; rfl
  have gr6 : gr H6 = gr H5 := by rw [e6]; rfl
  have gl6 : gl H6 = gl H5 := by rw [e6]; rfl
  have gi6 : ∀ a, a ≠ b → gi H6 a = gi H5 a := fun a q => by
    funext j
    rw [e6, r_wi_ne _ _ _ _ q, r_wi_ne _ _ _ _ q]
  have k6 : gk H6 b = some (.inl 4) := by rw [gk6]; exact k5
  have a7 : gk (al H6 (.inr (0, 1 <<< (2 * p)))) b = some (.inl 4) := ((r_al_k H6 _ g6).2.2.2.2 b (nb 14 (by omega))).1.trans k6
  refine hP.1 _ _ sx_Ma_init_57 _ _ _ _ _ ?_
  simp (maxSteps := 1000000) (disch := omega) only [gx_Ma_init_57, slk, List.map_cons, List.map_nil, List.sum_cons, List.sum_nil, vc_i, vc_r, vc_n, vc_l, vc_o, Nat.add_zero, kO_e, kA_e, hdO_a, eq_self, blk, stp, lg, ls0, lk, ls1, ls2, kI_i, kL_l, kR_r, kR_n, kR_o, s1I_i, s2I_i, s1L_l, s2L_l, s1R_r, s1R_n, s1R_o, s1A_a, cmpc, popn, swt, rf_s, rf_n, cat_i, cat_r, cat_n, cat_l, true_and, and_true, List.length_cons, List.length_nil, Nat.zero_add, Int.reduceToNat, Nat.reduceAdd, Nat.reduceDiv, Nat.reduceMod, Nat.reduceMul, Nat.reduceSub, Nat.reduceLeDiff, Nat.reduceLT, Nat.reduceEqDiff, ↓reduceIte, r_gr_wi, r_gl_wi, r_gk_wi, r_gn_wi, r_wi_eq, r_wi_ne, r_wi_nj, r_gi_wr, r_gl_wr, r_gk_wr, r_gn_wr, r_gr_wa, r_gl_wa, r_gk_wa, r_gn_wa, aa_e, as_e, al_e, u_lt, u_le, u_gt, u_ge, u_lt0, u_le0, u_gt0, u_ge0, Classical.not_not, not_true_eq_false, not_false_eq_true, oi_n, oi_m, n_dec, nI_add, pk_mul, n_sub, n_eq, n_le, n_lt, n_eq0, n_lt0, n_le0, n_0lt, n_0le, n_eqm, m_eqn, n_ltm, n_and, n_or, n_xor, n_shl, n_shr, tb1, tb0, bP_1, bP_0, bP_n0, ix_n, inb_n, u_eq, u_eqm, a7, b20, g6, aty]
  refine ⟨⟨by omega, by omega⟩, ?_⟩
  have N7 := na_of H6 (b := b) (k := 2) (.inr (0, 1 <<< (2 * p))) g6 (nb 14 (by omega))
  generalize wr (al H6 (.inr (0, 1 <<< (2 * p)))) b 2 (some (b + 14)) = H7 at N7 ⊢
  -- what stands now
  have kk : ∀ a, a ≠ b + 14 → a ≠ b + 13 → a ≠ b + 12 → gk H7 a = gk H3 a ∧ (a ≠ b → gi H7 a = gi H3 a) ∧ gl H7 a = gl H3 a := fun a q1 q2 q3 => by
    refine ⟨?_, fun q4 => ?_, ?_⟩
    · rw [(N7.2.2.2.2.1 a q1).1, gk6, (N5.2.2.2.2.1 a q2).1, (N4.2.2.2.2.1 a q3).1]
    · rw [(N7.2.2.2.2.1 a q1).2.1, gi6 a q4, (N5.2.2.2.2.1 a q2).2.1, (N4.2.2.2.2.1 a q3).2.1]
    · rw [(N7.2.2.2.2.1 a q1).2.2, gl6, (N5.2.2.2.2.1 a q2).2.2, (N4.2.2.2.2.1 a q3).2.2]
  have kl : ∀ a, ¬ (b + 3 ≤ a ∧ a ≤ b + 11) → a ≠ b + 2 → a ≠ b + 1 → gk H3 a = gk h a ∧ gi H3 a = gi h a ∧ gl H3 a = gl h a := fun a q1 q2 q3 => by
    have z := N3.2.2.2.2.1 a (by omega)
    rw [z.1, z.2.1, z.2.2, (N2.2.2.2.2.1 a q2).1, (N2.2.2.2.2.1 a q2).2.1, (N2.2.2.2.2.1 a q2).2.2, (N1.2.2.2.2.1 a q3).1, (N1.2.2.2.2.1 a q3).2.1, (N1.2.2.2.2.1 a q3).2.2]
    exact ⟨rfl, rfl, rfl⟩
  have rr : ∀ a j, a ≠ b + 14 → a ≠ b + 13 → a ≠ b + 12 → ¬ (a = b ∧ (j = 2 ∨ j = 6 ∨ j = 7)) → gr H7 a j = gr H3 a j := fun a j q1 q2 q3 q4 => by
    rw [N7.2.2.2.2.2 a j q1 (fun z => q4 ⟨z.1, Or.inl z.2⟩), gr6, N5.2.2.2.2.2 a j q2 (fun z => q4 ⟨z.1, Or.inr (Or.inr z.2)⟩), N4.2.2.2.2.2 a j q3 (fun z => q4 ⟨z.1, Or.inr (Or.inl z.2)⟩)]
  have rl : ∀ a j, ¬ (b + 3 ≤ a ∧ a ≤ b + 11) → a ≠ b + 2 → a ≠ b + 1 → ¬ (a = b ∧ (j = 3 ∨ j = 4 ∨ j = 5)) → gr H3 a j = gr h a j := fun a j q1 q2 q3 q4 => by
    rw [N3.2.2.2.2.2 a j (by omega) (fun z => q4 ⟨z.1, Or.inr (Or.inr z.2)⟩), N2.2.2.2.2.2 a j q2 (fun z => q4 ⟨z.1, Or.inr (Or.inl z.2)⟩), N1.2.2.2.2.2 a j q3 (fun z => q4 ⟨z.1, Or.inl z.2⟩)]
  have M7 : MA H7 b p := by
    refine ⟨⟨hb, by rw [N7.1]; omega⟩, ⟨?_, ?_, ?_, ?_, ?_, ?_, N7.2.1⟩, ⟨N7.2.2.2.1, ?_, ?_, ?_, ?_, ?_⟩, fun e he => ⟨?_, ?_⟩⟩
    · rw [(kk b (by omega) (by omega) (by omega)).1]; exact k3
    · rw [(kk _ (by omega) (by omega) (by omega)).1, (N3.2.2.2.2.1 _ (by omega)).1, (N2.2.2.2.2.1 _ (by omega)).1]; exact N1.2.1
    · rw [(kk _ (by omega) (by omega) (by omega)).1, (N3.2.2.2.2.1 _ (by omega)).1]; exact N2.2.1
    · rw [(kk _ (by omega) (by omega) (by omega)).1]; exact N3.2.1
    · rw [(N7.2.2.2.2.1 _ (by omega)).1, gk6, (N5.2.2.2.2.1 _ (by omega)).1]; exact N4.2.1
    · rw [(N7.2.2.2.2.1 _ (by omega)).1, gk6]; exact N5.2.1
    · rw [rr _ _ (by omega) (by omega) (by omega) (by omega), N3.2.2.2.2.2 _ _ (by omega) (by omega), N2.2.2.2.2.2 _ _ (by omega) (by omega)]; exact N1.2.2.2.1
    · rw [rr _ _ (by omega) (by omega) (by omega) (by omega), N3.2.2.2.2.2 _ _ (by omega) (by omega)]; exact N2.2.2.2.1
    · rw [rr _ _ (by omega) (by omega) (by omega) (by omega)]; exact N3.2.2.2.1
    · rw [N7.2.2.2.2.2 _ _ (by omega) (by omega), gr6, N5.2.2.2.2.2 _ _ (by omega) (by omega)]; exact N4.2.2.2.1
    · rw [N7.2.2.2.2.2 _ _ (by omega) (by omega), gr6]; exact N5.2.2.2.1
    · have z := (N3.2.2.1 e he).2.1
      rw [show b + 1 + 1 + 1 + 1 + e = b + 4 + e by omega] at z
      rw [(kk _ (by omega) (by omega) (by omega)).1]; exact z
    · have z := (N3.2.2.1 e he).1
      rw [show b + 1 + 1 + 1 + 1 + e = b + 4 + e by omega] at z
      rw [rr _ _ (by omega) (by omega) (by omega) (by omega)]; exact z
  have gib : ∀ j, j ≠ 0 → j ≠ 1 → gi H7 b j = nI 0 := fun j q1 q2 => by
    rw [(N7.2.2.2.2.1 b (by omega)).2.1, e6, r_wi_nj _ _ _ q2, r_wi_nj _ _ _ q1, (N5.2.2.2.2.1 b (by omega)).2.1, (N4.2.2.2.2.1 b (by omega)).2.1, (kl b (by omega) (by omega) (by omega)).2.1, hi]
    rfl
  have fb : gi H7 b 0 = nI p ∧ gi H7 b 1 = nI w ∧ gi H7 b 8 = nI 0 ∧ gi H7 b 9 = nI 0 ∧ gr H7 b 10 = none := by
    refine ⟨?_, ?_, gib 8 (by omega) (by omega), gib 9 (by omega) (by omega), ?_⟩
    · rw [(N7.2.2.2.2.1 b (by omega)).2.1, e6, r_wi_nj _ _ _ (by omega), r_wi_eq]
    · rw [(N7.2.2.2.2.1 b (by omega)).2.1, e6, r_wi_eq]
    · rw [rr _ _ (by omega) (by omega) (by omega) (by omega), rl _ _ (by omega) (by omega) (by omega) (by omega), hr]
  have z12 : ∀ e, e < 8 → gi H7 (b + 1) e = nI 0 ∧ gi H7 (b + 2) e = nI 0 := fun e he => by
    rw [(kk _ (by omega) (by omega) (by omega)).2.1 (by omega), (kk (b + 2) (by omega) (by omega) (by omega)).2.1 (by omega), (N3.2.2.2.2.1 _ (by omega)).2.1, (N3.2.2.2.2.1 (b + 2) (by omega)).2.1, (N2.2.2.2.2.1 _ (by omega)).2.1, N1.2.2.1, N2.2.2.1]
    exact ⟨rfl, rfl⟩
  have F7 : Fg (fun a => a = b) (fun a _ => a = b) h H7 := by
    refine ⟨fun a q => ?_, by rw [N7.1]; omega, fun a q z => ?_, fun a j q z => ?_⟩
    · rw [(kk a (by omega) (by omega) (by omega)).1, (kl a (by omega) (by omega) (by omega)).1]
    · rw [(kk a (by omega) (by omega) (by omega)).2.1 z, (kl a (by omega) (by omega) (by omega)).2.1]
    · rw [rr a j (by omega) (by omega) (by omega) (fun y => z y.1), rl a j (by omega) (by omega) (by omega) (fun y => z y.1)]
  have l7 : ∀ a, a < gn h → gl H7 a = gl h a := fun a q => by rw [(kk a (by omega) (by omega) (by omega)).2.2, (kl a (by omega) (by omega) (by omega)).2.2]
  have g7 : gn H7 = b + 15 := N7.1
  clear N1 N2 N3 N4 N5 N7 kk kl rr rl gib a1 a2 a3 a4 a5 a7 e6 gk6 gr6 gl6 gi6 g6 k1 k2 k3 k4 k5 k6 g3
  have M := M7
  -- cares are 1 each
  have loop2 : ∀ z, z ≤ 1168 → ∀ n k H, k + n = 8 → Fp (fun a => b + 4 ≤ a) H7 H → (∀ x, x < 1 <<< (2 * p) → gi H (b + 14) x = nI (slN p w x)) → (∀ e q, e < k → q < 5 → gi H (b + 4 + e) q = nI 1) → P 99 [some (.ref b), some (.int (nI p)), some (.int (nI w)), some (.int (nI k))] [] H 14 z := by
    intro z hz n
    induction n using Nat.strongRecOn with
    | _ n ih =>
      intro k H hk F hs hc
      have M := F.ma M7
      refine hP.1 _ _ sx_Ma_init_99 _ _ _ _ _ ?_
      simp (maxSteps := 1000000) (disch := omega) only [gx_Ma_init_99, slk, List.map_cons, List.map_nil, List.sum_cons, List.sum_nil, vc_i, vc_r, vc_n, vc_l, vc_o, Nat.add_zero, kO_e, kA_e, hdO_a, eq_self, blk, stp, lg, ls0, lk, ls1, ls2, kI_i, kL_l, kR_r, kR_n, kR_o, s1I_i, s2I_i, s1L_l, s2L_l, s1R_r, s1R_n, s1R_o, s1A_a, cmpc, popn, swt, rf_s, rf_n, cat_i, cat_r, cat_n, cat_l, true_and, and_true, List.length_cons, List.length_nil, Nat.zero_add, Int.reduceToNat, Nat.reduceAdd, Nat.reduceDiv, Nat.reduceMod, Nat.reduceMul, Nat.reduceSub, Nat.reduceLeDiff, Nat.reduceLT, Nat.reduceEqDiff, ↓reduceIte, r_gr_wi, r_gl_wi, r_gk_wi, r_gn_wi, r_wi_eq, r_wi_ne, r_wi_nj, r_gi_wr, r_gl_wr, r_gk_wr, r_gn_wr, r_gr_wa, r_gl_wa, r_gk_wa, r_gn_wa, aa_e, as_e, al_e, u_lt, u_le, u_gt, u_ge, u_lt0, u_le0, u_gt0, u_ge0, Classical.not_not, not_true_eq_false, not_false_eq_true, oi_n, oi_m, n_dec, nI_add, pk_mul, n_sub, n_eq, n_le, n_lt, n_eq0, n_lt0, n_le0, n_0lt, n_0le, n_eqm, m_eqn, n_ltm, n_and, n_or, n_xor, n_shl, n_shr, tb1, tb0, bP_1, bP_0, bP_n0, ix_n, inb_n, u_eq, u_eqm, ma_k M, ma_k1 M, ma_k2 M, ma_k3 M, ma_k12 M, ma_k13 M, ma_k14 M, ma_r2 M, ma_r3 M, ma_r4 M, ma_r5 M, ma_r6 M, ma_r7 M]
      refine ⟨fun hc2 => ?_, fun hc2 => ?_⟩
      · have e8 : k = 8 := by omega
        subst e8
        refine hP.1 _ _ sx_Ma_init_121 _ _ _ _ _ ?_
        simp (maxSteps := 1000000) (disch := omega) only [gx_Ma_init_121, slk, List.map_cons, List.map_nil, List.sum_cons, List.sum_nil, vc_i, vc_r, vc_n, vc_l, vc_o, Nat.add_zero, kO_e, kA_e, hdO_a, eq_self, blk, stp, lg, ls0, lk, ls1, ls2, kI_i, kL_l, kR_r, kR_n, kR_o, s1I_i, s2I_i, s1L_l, s2L_l, s1R_r, s1R_n, s1R_o, s1A_a, cmpc, popn, swt, rf_s, rf_n, cat_i, cat_r, cat_n, cat_l, true_and, and_true, List.length_cons, List.length_nil, Nat.zero_add, Int.reduceToNat, Nat.reduceAdd, Nat.reduceDiv, Nat.reduceMod, Nat.reduceMul, Nat.reduceSub, Nat.reduceLeDiff, Nat.reduceLT, Nat.reduceEqDiff, ↓reduceIte, r_gr_wi, r_gl_wi, r_gk_wi, r_gn_wi, r_wi_eq, r_wi_ne, r_wi_nj, r_gi_wr, r_gl_wr, r_gk_wr, r_gn_wr, r_gr_wa, r_gl_wa, r_gk_wa, r_gn_wa, aa_e, as_e, al_e, u_lt, u_le, u_gt, u_ge, u_lt0, u_le0, u_gt0, u_ge0, Classical.not_not, not_true_eq_false, not_false_eq_true, oi_n, oi_m, n_dec, nI_add, pk_mul, n_sub, n_eq, n_le, n_lt, n_eq0, n_lt0, n_le0, n_0lt, n_0le, n_eqm, m_eqn, n_ltm, n_and, n_or, n_xor, n_shl, n_shr, tb1, tb0, bP_1, bP_0, bP_n0, ix_n, inb_n, u_eq, u_eqm, ma_k M, ma_k1 M, ma_k2 M, ma_k3 M, ma_k12 M, ma_k13 M, ma_k14 M, ma_r2 M, ma_r3 M, ma_r4 M, ma_r5 M, ma_r6 M, ma_r7 M]
        rw [r_Ma_init]
        have n1 : ∀ a, a < b + 4 → gi H a = gi H7 a := fun a q => F.2 a (fun y => by omega)
        refine ⟨trivial, rfl, ⟨fun a q => by rw [F.gk]; exact F7.1 a q, by rw [F.gn]; exact F7.2.1, fun a q z => (n1 a (by omega)).trans (F7.2.2.1 a q z), fun a j q z => by rw [F.gr]; exact F7.2.2.2 a j q z⟩, fun a q => by rw [F.gl]; exact l7 a q, by rw [F.gn]; exact g7, M, ?_, hs, fun e he => ?_, fun e q he hq => hc e q he hq⟩
        · rw [n1 b (by omega), F.gr]
          exact fb
        · rw [n1 (b + 1) (by omega), n1 (b + 2) (by omega)]
          exact z12 e he
      · have k8 : k < 8 := by omega
        have kr := ma_kr M k8
        have rr := ma_rr M k8
        refine hP.1 _ _ sx_Ma_init_105 _ _ _ _ _ ?_
        simp (maxSteps := 1000000) (disch := omega) only [gx_Ma_init_105, slk, List.map_cons, List.map_nil, List.sum_cons, List.sum_nil, vc_i, vc_r, vc_n, vc_l, vc_o, Nat.add_zero, kO_e, kA_e, hdO_a, eq_self, blk, stp, lg, ls0, lk, ls1, ls2, kI_i, kL_l, kR_r, kR_n, kR_o, s1I_i, s2I_i, s1L_l, s2L_l, s1R_r, s1R_n, s1R_o, s1A_a, cmpc, popn, swt, rf_s, rf_n, cat_i, cat_r, cat_n, cat_l, true_and, and_true, List.length_cons, List.length_nil, Nat.zero_add, Int.reduceToNat, Nat.reduceAdd, Nat.reduceDiv, Nat.reduceMod, Nat.reduceMul, Nat.reduceSub, Nat.reduceLeDiff, Nat.reduceLT, Nat.reduceEqDiff, ↓reduceIte, r_gr_wi, r_gl_wi, r_gk_wi, r_gn_wi, r_wi_eq, r_wi_ne, r_wi_nj, r_gi_wr, r_gl_wr, r_gk_wr, r_gn_wr, r_gr_wa, r_gl_wa, r_gk_wa, r_gn_wa, aa_e, as_e, al_e, u_lt, u_le, u_gt, u_ge, u_lt0, u_le0, u_gt0, u_ge0, Classical.not_not, not_true_eq_false, not_false_eq_true, oi_n, oi_m, n_dec, nI_add, pk_mul, n_sub, n_eq, n_le, n_lt, n_eq0, n_lt0, n_le0, n_0lt, n_0le, n_eqm, m_eqn, n_ltm, n_and, n_or, n_xor, n_shl, n_shr, tb1, tb0, bP_1, bP_0, bP_n0, ix_n, inb_n, u_eq, u_eqm, ma_k M, ma_k1 M, ma_k2 M, ma_k3 M, ma_k12 M, ma_k13 M, ma_k14 M, ma_r2 M, ma_r3 M, ma_r4 M, ma_r5 M, ma_r6 M, ma_r7 M, kr, rr]
        refine wcv (c_Ar_fill (N := 5) (by omega) (by exact kr) (by omega)) ⟨by omega, by omega⟩ ?_
        simp (maxSteps := 1000000) (disch := omega) only [slk, List.map_cons, List.map_nil, List.sum_cons, List.sum_nil, vc_i, vc_r, vc_n, vc_l, vc_o, Nat.add_zero, kO_e, kA_e, hdO_a, eq_self, blk, stp, lg, ls0, lk, ls1, ls2, kI_i, kL_l, kR_r, kR_n, kR_o, s1I_i, s2I_i, s1L_l, s2L_l, s1R_r, s1R_n, s1R_o, s1A_a, cmpc, popn, swt, rf_s, rf_n, cat_i, cat_r, cat_n, cat_l, true_and, and_true, List.length_cons, List.length_nil, Nat.zero_add, Int.reduceToNat, Nat.reduceAdd, Nat.reduceDiv, Nat.reduceMod, Nat.reduceMul, Nat.reduceSub, Nat.reduceLeDiff, Nat.reduceLT, Nat.reduceEqDiff, ↓reduceIte, r_gr_wi, r_gl_wi, r_gk_wi, r_gn_wi, r_wi_eq, r_wi_ne, r_wi_nj, r_gi_wr, r_gl_wr, r_gk_wr, r_gn_wr, r_gr_wa, r_gl_wa, r_gk_wa, r_gn_wa, aa_e, as_e, al_e, u_lt, u_le, u_gt, u_ge, u_lt0, u_le0, u_gt0, u_ge0, Classical.not_not, not_true_eq_false, not_false_eq_true, oi_n, oi_m, n_dec, nI_add, pk_mul, n_sub, n_eq, n_le, n_lt, n_eq0, n_lt0, n_le0, n_0lt, n_0le, n_eqm, m_eqn, n_ltm, n_and, n_or, n_xor, n_shl, n_shr, tb1, tb0, bP_1, bP_0, bP_n0, ix_n, inb_n, u_eq, u_eqm, ma_k M, ma_k1 M, ma_k2 M, ma_k3 M, ma_k12 M, ma_k13 M, ma_k14 M, ma_r2 M, ma_r3 M, ma_r4 M, ma_r5 M, ma_r6 M, ma_r7 M, kr, rr]
        refine hP.1 _ _ sx_Ma_init_115 _ _ _ _ _ ?_
        simp (maxSteps := 1000000) (disch := omega) only [gx_Ma_init_115, slk, List.map_cons, List.map_nil, List.sum_cons, List.sum_nil, vc_i, vc_r, vc_n, vc_l, vc_o, Nat.add_zero, kO_e, kA_e, hdO_a, eq_self, blk, stp, lg, ls0, lk, ls1, ls2, kI_i, kL_l, kR_r, kR_n, kR_o, s1I_i, s2I_i, s1L_l, s2L_l, s1R_r, s1R_n, s1R_o, s1A_a, cmpc, popn, swt, rf_s, rf_n, cat_i, cat_r, cat_n, cat_l, true_and, and_true, List.length_cons, List.length_nil, Nat.zero_add, Int.reduceToNat, Nat.reduceAdd, Nat.reduceDiv, Nat.reduceMod, Nat.reduceMul, Nat.reduceSub, Nat.reduceLeDiff, Nat.reduceLT, Nat.reduceEqDiff, ↓reduceIte, r_gr_wi, r_gl_wi, r_gk_wi, r_gn_wi, r_wi_eq, r_wi_ne, r_wi_nj, r_gi_wr, r_gl_wr, r_gk_wr, r_gn_wr, r_gr_wa, r_gl_wa, r_gk_wa, r_gn_wa, aa_e, as_e, al_e, u_lt, u_le, u_gt, u_ge, u_lt0, u_le0, u_gt0, u_ge0, Classical.not_not, not_true_eq_false, not_false_eq_true, oi_n, oi_m, n_dec, nI_add, pk_mul, n_sub, n_eq, n_le, n_lt, n_eq0, n_lt0, n_le0, n_0lt, n_0le, n_eqm, m_eqn, n_ltm, n_and, n_or, n_xor, n_shl, n_shr, tb1, tb0, bP_1, bP_0, bP_n0, ix_n, inb_n, u_eq, u_eqm, ma_k M, ma_k1 M, ma_k2 M, ma_k3 M, ma_k12 M, ma_k13 M, ma_k14 M, ma_r2 M, ma_r3 M, ma_r4 M, ma_r5 M, ma_r6 M, ma_r7 M, kr, rr]
        refine ih (n - 1) (by omega) (k + 1) _ (by omega) (F.wa (show b + 4 ≤ b + 4 + k by omega) _) (fun x hx => ?_) (fun e q he hq => ?_)
        · rw [r_gi_wa, if_neg (by omega)]
          exact hs x hx
        · rw [r_gi_wa]
          by_cases y : e = k
          · subst y
            rw [if_pos rfl, if_pos hq]
          · rw [if_neg (by omega)]
            exact hc e q (by omega) hq
  have loop1 : ∀ z, z ≤ 1168 → ∀ n k H, k + n = 1 <<< (2 * p) → Fp (fun a => b + 4 ≤ a) H7 H → (∀ x, x < k → gi H (b + 14) x = nI (slN p w x)) → P 70 [some (.ref b), some (.int (nI p)), some (.int (nI w)), some (.int (nI k))] [] H 14 z := by
    intro z hz n
    induction n using Nat.strongRecOn with
    | _ n ih =>
      intro k H hk F hs
      have M := F.ma M7
      have b214 : 20 ≤ b + 14 := by omega
      refine hP.1 _ _ sx_Ma_init_70 _ _ _ _ _ ?_
      simp (maxSteps := 1000000) (disch := omega) only [gx_Ma_init_70, slk, List.map_cons, List.map_nil, List.sum_cons, List.sum_nil, vc_i, vc_r, vc_n, vc_l, vc_o, Nat.add_zero, kO_e, kA_e, hdO_a, eq_self, blk, stp, lg, ls0, lk, ls1, ls2, kI_i, kL_l, kR_r, kR_n, kR_o, s1I_i, s2I_i, s1L_l, s2L_l, s1R_r, s1R_n, s1R_o, s1A_a, cmpc, popn, swt, rf_s, rf_n, cat_i, cat_r, cat_n, cat_l, true_and, and_true, List.length_cons, List.length_nil, Nat.zero_add, Int.reduceToNat, Nat.reduceAdd, Nat.reduceDiv, Nat.reduceMod, Nat.reduceMul, Nat.reduceSub, Nat.reduceLeDiff, Nat.reduceLT, Nat.reduceEqDiff, ↓reduceIte, r_gr_wi, r_gl_wi, r_gk_wi, r_gn_wi, r_wi_eq, r_wi_ne, r_wi_nj, r_gi_wr, r_gl_wr, r_gk_wr, r_gn_wr, r_gr_wa, r_gl_wa, r_gk_wa, r_gn_wa, aa_e, as_e, al_e, u_lt, u_le, u_gt, u_ge, u_lt0, u_le0, u_gt0, u_ge0, Classical.not_not, not_true_eq_false, not_false_eq_true, oi_n, oi_m, n_dec, nI_add, pk_mul, n_sub, n_eq, n_le, n_lt, n_eq0, n_lt0, n_le0, n_0lt, n_0le, n_eqm, m_eqn, n_ltm, n_and, n_or, n_xor, n_shl, n_shr, tb1, tb0, bP_1, bP_0, bP_n0, ix_n, inb_n, u_eq, u_eqm, ma_k M, ma_k1 M, ma_k2 M, ma_k3 M, ma_k12 M, ma_k13 M, ma_k14 M, ma_r2 M, ma_r3 M, ma_r4 M, ma_r5 M, ma_r6 M, ma_r7 M, b214]
      refine ⟨fun hc2 => ?_, fun hc2 => ?_⟩
      · have e8 : k = 1 <<< (2 * p) := by omega
        subst e8
        refine hP.1 _ _ sx_Ma_init_97 _ _ _ _ _ ?_
        simp (maxSteps := 1000000) (disch := omega) only [gx_Ma_init_97, slk, List.map_cons, List.map_nil, List.sum_cons, List.sum_nil, vc_i, vc_r, vc_n, vc_l, vc_o, Nat.add_zero, kO_e, kA_e, hdO_a, eq_self, blk, stp, lg, ls0, lk, ls1, ls2, kI_i, kL_l, kR_r, kR_n, kR_o, s1I_i, s2I_i, s1L_l, s2L_l, s1R_r, s1R_n, s1R_o, s1A_a, cmpc, popn, swt, rf_s, rf_n, cat_i, cat_r, cat_n, cat_l, true_and, and_true, List.length_cons, List.length_nil, Nat.zero_add, Int.reduceToNat, Nat.reduceAdd, Nat.reduceDiv, Nat.reduceMod, Nat.reduceMul, Nat.reduceSub, Nat.reduceLeDiff, Nat.reduceLT, Nat.reduceEqDiff, ↓reduceIte, r_gr_wi, r_gl_wi, r_gk_wi, r_gn_wi, r_wi_eq, r_wi_ne, r_wi_nj, r_gi_wr, r_gl_wr, r_gk_wr, r_gn_wr, r_gr_wa, r_gl_wa, r_gk_wa, r_gn_wa, aa_e, as_e, al_e, u_lt, u_le, u_gt, u_ge, u_lt0, u_le0, u_gt0, u_ge0, Classical.not_not, not_true_eq_false, not_false_eq_true, oi_n, oi_m, n_dec, nI_add, pk_mul, n_sub, n_eq, n_le, n_lt, n_eq0, n_lt0, n_le0, n_0lt, n_0le, n_eqm, m_eqn, n_ltm, n_and, n_or, n_xor, n_shl, n_shr, tb1, tb0, bP_1, bP_0, bP_n0, ix_n, inb_n, u_eq, u_eqm, ma_k M, ma_k1 M, ma_k2 M, ma_k3 M, ma_k12 M, ma_k13 M, ma_k14 M, ma_r2 M, ma_r3 M, ma_r4 M, ma_r5 M, ma_r6 M, ma_r7 M, b214]
        exact loop2 _ hz 8 0 H rfl F hs (fun e q he => absurd he (Nat.not_lt_zero _))
      · refine hP.1 _ _ sx_Ma_init_79 _ _ _ _ _ ?_
        simp (maxSteps := 1000000) (disch := omega) only [gx_Ma_init_79, slk, List.map_cons, List.map_nil, List.sum_cons, List.sum_nil, vc_i, vc_r, vc_n, vc_l, vc_o, Nat.add_zero, kO_e, kA_e, hdO_a, eq_self, blk, stp, lg, ls0, lk, ls1, ls2, kI_i, kL_l, kR_r, kR_n, kR_o, s1I_i, s2I_i, s1L_l, s2L_l, s1R_r, s1R_n, s1R_o, s1A_a, cmpc, popn, swt, rf_s, rf_n, cat_i, cat_r, cat_n, cat_l, true_and, and_true, List.length_cons, List.length_nil, Nat.zero_add, Int.reduceToNat, Nat.reduceAdd, Nat.reduceDiv, Nat.reduceMod, Nat.reduceMul, Nat.reduceSub, Nat.reduceLeDiff, Nat.reduceLT, Nat.reduceEqDiff, ↓reduceIte, r_gr_wi, r_gl_wi, r_gk_wi, r_gn_wi, r_wi_eq, r_wi_ne, r_wi_nj, r_gi_wr, r_gl_wr, r_gk_wr, r_gn_wr, r_gr_wa, r_gl_wa, r_gk_wa, r_gn_wa, aa_e, as_e, al_e, u_lt, u_le, u_gt, u_ge, u_lt0, u_le0, u_gt0, u_ge0, Classical.not_not, not_true_eq_false, not_false_eq_true, oi_n, oi_m, n_dec, nI_add, pk_mul, n_sub, n_eq, n_le, n_lt, n_eq0, n_lt0, n_le0, n_0lt, n_0le, n_eqm, m_eqn, n_ltm, n_and, n_or, n_xor, n_shl, n_shr, tb1, tb0, bP_1, bP_0, bP_n0, ix_n, inb_n, u_eq, u_eqm, ma_k M, ma_k1 M, ma_k2 M, ma_k3 M, ma_k12 M, ma_k13 M, ma_k14 M, ma_r2 M, ma_r3 M, ma_r4 M, ma_r5 M, ma_r6 M, ma_r7 M, b214]
        refine wc (c_Ma_slotsIn hp hw (x := k) (by omega)) ⟨by omega, by omega⟩ ?_
        simp (maxSteps := 1000000) (disch := omega) only [slk, List.map_cons, List.map_nil, List.sum_cons, List.sum_nil, vc_i, vc_r, vc_n, vc_l, vc_o, Nat.add_zero, kO_e, kA_e, hdO_a, eq_self, blk, stp, lg, ls0, lk, ls1, ls2, kI_i, kL_l, kR_r, kR_n, kR_o, s1I_i, s2I_i, s1L_l, s2L_l, s1R_r, s1R_n, s1R_o, s1A_a, cmpc, popn, swt, rf_s, rf_n, cat_i, cat_r, cat_n, cat_l, true_and, and_true, List.length_cons, List.length_nil, Nat.zero_add, Int.reduceToNat, Nat.reduceAdd, Nat.reduceDiv, Nat.reduceMod, Nat.reduceMul, Nat.reduceSub, Nat.reduceLeDiff, Nat.reduceLT, Nat.reduceEqDiff, ↓reduceIte, r_gr_wi, r_gl_wi, r_gk_wi, r_gn_wi, r_wi_eq, r_wi_ne, r_wi_nj, r_gi_wr, r_gl_wr, r_gk_wr, r_gn_wr, r_gr_wa, r_gl_wa, r_gk_wa, r_gn_wa, aa_e, as_e, al_e, u_lt, u_le, u_gt, u_ge, u_lt0, u_le0, u_gt0, u_ge0, Classical.not_not, not_true_eq_false, not_false_eq_true, oi_n, oi_m, n_dec, nI_add, pk_mul, n_sub, n_eq, n_le, n_lt, n_eq0, n_lt0, n_le0, n_0lt, n_0le, n_eqm, m_eqn, n_ltm, n_and, n_or, n_xor, n_shl, n_shr, tb1, tb0, bP_1, bP_0, bP_n0, ix_n, inb_n, u_eq, u_eqm, ma_k M, ma_k1 M, ma_k2 M, ma_k3 M, ma_k12 M, ma_k13 M, ma_k14 M, ma_r2 M, ma_r3 M, ma_r4 M, ma_r5 M, ma_r6 M, ma_r7 M, b214]
        refine hP.1 _ _ sx_Ma_init_90 _ _ _ _ _ ?_
        simp (maxSteps := 1000000) (disch := omega) only [gx_Ma_init_90, slk, List.map_cons, List.map_nil, List.sum_cons, List.sum_nil, vc_i, vc_r, vc_n, vc_l, vc_o, Nat.add_zero, kO_e, kA_e, hdO_a, eq_self, blk, stp, lg, ls0, lk, ls1, ls2, kI_i, kL_l, kR_r, kR_n, kR_o, s1I_i, s2I_i, s1L_l, s2L_l, s1R_r, s1R_n, s1R_o, s1A_a, cmpc, popn, swt, rf_s, rf_n, cat_i, cat_r, cat_n, cat_l, true_and, and_true, List.length_cons, List.length_nil, Nat.zero_add, Int.reduceToNat, Nat.reduceAdd, Nat.reduceDiv, Nat.reduceMod, Nat.reduceMul, Nat.reduceSub, Nat.reduceLeDiff, Nat.reduceLT, Nat.reduceEqDiff, ↓reduceIte, r_gr_wi, r_gl_wi, r_gk_wi, r_gn_wi, r_wi_eq, r_wi_ne, r_wi_nj, r_gi_wr, r_gl_wr, r_gk_wr, r_gn_wr, r_gr_wa, r_gl_wa, r_gk_wa, r_gn_wa, aa_e, as_e, al_e, u_lt, u_le, u_gt, u_ge, u_lt0, u_le0, u_gt0, u_ge0, Classical.not_not, not_true_eq_false, not_false_eq_true, oi_n, oi_m, n_dec, nI_add, pk_mul, n_sub, n_eq, n_le, n_lt, n_eq0, n_lt0, n_le0, n_0lt, n_0le, n_eqm, m_eqn, n_ltm, n_and, n_or, n_xor, n_shl, n_shr, tb1, tb0, bP_1, bP_0, bP_n0, ix_n, inb_n, u_eq, u_eqm, ma_k M, ma_k1 M, ma_k2 M, ma_k3 M, ma_k12 M, ma_k13 M, ma_k14 M, ma_r2 M, ma_r3 M, ma_r4 M, ma_r5 M, ma_r6 M, ma_r7 M, b214]
        refine hP.1 _ _ sx_Ma_init_91 _ _ _ _ _ ?_
        simp (maxSteps := 1000000) (disch := omega) only [gx_Ma_init_91, slk, List.map_cons, List.map_nil, List.sum_cons, List.sum_nil, vc_i, vc_r, vc_n, vc_l, vc_o, Nat.add_zero, kO_e, kA_e, hdO_a, eq_self, blk, stp, lg, ls0, lk, ls1, ls2, kI_i, kL_l, kR_r, kR_n, kR_o, s1I_i, s2I_i, s1L_l, s2L_l, s1R_r, s1R_n, s1R_o, s1A_a, cmpc, popn, swt, rf_s, rf_n, cat_i, cat_r, cat_n, cat_l, true_and, and_true, List.length_cons, List.length_nil, Nat.zero_add, Int.reduceToNat, Nat.reduceAdd, Nat.reduceDiv, Nat.reduceMod, Nat.reduceMul, Nat.reduceSub, Nat.reduceLeDiff, Nat.reduceLT, Nat.reduceEqDiff, ↓reduceIte, r_gr_wi, r_gl_wi, r_gk_wi, r_gn_wi, r_wi_eq, r_wi_ne, r_wi_nj, r_gi_wr, r_gl_wr, r_gk_wr, r_gn_wr, r_gr_wa, r_gl_wa, r_gk_wa, r_gn_wa, aa_e, as_e, al_e, u_lt, u_le, u_gt, u_ge, u_lt0, u_le0, u_gt0, u_ge0, Classical.not_not, not_true_eq_false, not_false_eq_true, oi_n, oi_m, n_dec, nI_add, pk_mul, n_sub, n_eq, n_le, n_lt, n_eq0, n_lt0, n_le0, n_0lt, n_0le, n_eqm, m_eqn, n_ltm, n_and, n_or, n_xor, n_shl, n_shr, tb1, tb0, bP_1, bP_0, bP_n0, ix_n, inb_n, u_eq, u_eqm, ma_k M, ma_k1 M, ma_k2 M, ma_k3 M, ma_k12 M, ma_k13 M, ma_k14 M, ma_r2 M, ma_r3 M, ma_r4 M, ma_r5 M, ma_r6 M, ma_r7 M, b214]
        refine ih (n - 1) (by omega) (k + 1) _ (by omega) (F.wi (show b + 4 ≤ b + 14 by omega) _ _) (fun x hx => ?_)
        by_cases y : x = k
        · subst y
          exact r_wi_eq _ _ _ _
        · rw [r_wi_nj _ _ _ y]
          exact hs x (by omega)
  refine hP.1 _ _ sx_Ma_init_68 _ _ _ _ _ ?_
  simp (maxSteps := 1000000) (disch := omega) only [gx_Ma_init_68, slk, List.map_cons, List.map_nil, List.sum_cons, List.sum_nil, vc_i, vc_r, vc_n, vc_l, vc_o, Nat.add_zero, kO_e, kA_e, hdO_a, eq_self, blk, stp, lg, ls0, lk, ls1, ls2, kI_i, kL_l, kR_r, kR_n, kR_o, s1I_i, s2I_i, s1L_l, s2L_l, s1R_r, s1R_n, s1R_o, s1A_a, cmpc, popn, swt, rf_s, rf_n, cat_i, cat_r, cat_n, cat_l, true_and, and_true, List.length_cons, List.length_nil, Nat.zero_add, Int.reduceToNat, Nat.reduceAdd, Nat.reduceDiv, Nat.reduceMod, Nat.reduceMul, Nat.reduceSub, Nat.reduceLeDiff, Nat.reduceLT, Nat.reduceEqDiff, ↓reduceIte, r_gr_wi, r_gl_wi, r_gk_wi, r_gn_wi, r_wi_eq, r_wi_ne, r_wi_nj, r_gi_wr, r_gl_wr, r_gk_wr, r_gn_wr, r_gr_wa, r_gl_wa, r_gk_wa, r_gn_wa, aa_e, as_e, al_e, u_lt, u_le, u_gt, u_ge, u_lt0, u_le0, u_gt0, u_ge0, Classical.not_not, not_true_eq_false, not_false_eq_true, oi_n, oi_m, n_dec, nI_add, pk_mul, n_sub, n_eq, n_le, n_lt, n_eq0, n_lt0, n_le0, n_0lt, n_0le, n_eqm, m_eqn, n_ltm, n_and, n_or, n_xor, n_shl, n_shr, tb1, tb0, bP_1, bP_0, bP_n0, ix_n, inb_n, u_eq, u_eqm, ma_k M, ma_k1 M, ma_k2 M, ma_k3 M, ma_k12 M, ma_k13 M, ma_k14 M, ma_r2 M, ma_r3 M, ma_r4 M, ma_r5 M, ma_r6 M, ma_r7 M]
  exact loop1 _ (by omega) _ 0 H7 (Nat.zero_add _) (Fp.refl _ _) (fun x hx => absurd hx (Nat.not_lt_zero _))
end
