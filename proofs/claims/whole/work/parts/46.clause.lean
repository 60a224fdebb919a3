/-! ===== the reference: sums and conditions of each depth ===== -/
theorem n_R_clause : mN 94 = 1 := rfl
theorem l_R_clause : mL 94 = 5 := rfl
theorem r_R_clause : mR 94 = none := rfl
theorem n_R_goThrough : mN 95 = 6 := rfl
theorem l_R_goThrough : mL 95 = 6 := rfl
theorem r_R_goThrough : mR 95 = none := rfl
theorem n_R_hasWorth : mN 104 = 4 := rfl
theorem l_R_hasWorth : mL 104 = 5 := rfl
theorem r_R_hasWorth : mR 104 = some .boolean := rfl
theorem CRa_c {d d' k : Nat} {l : Nat → Int32} {h : AH} {dp n : Nat} {f : Ps} (C : CRa d k l h dp n f) (e : d = d') : CRa d' k l h dp n f := e ▸ C
theorem CRb_c {d d' k : Nat} {as : List Value} {l : Nat → Int32} {h : AH} {dp n : Nat} {f : Ps} (C : CRb d k as l h dp n f) (e : d = d') : CRb d' k as l h dp n f := e ▸ C
section
variable {h : AH} {tid b n : Nat} {B : Nat → Nat} {mind : Bool}
theorem sum_ok (E : TE h tid b n B mind) {l : Nat → Int32} (hl : ∀ c, c < 128 → gi h 128 c = l c) (k : Nat) : ∀ r, r ≤ 6 → CRa (k + 8 + 3 * r) 88 l h (6 - r) n (sumS B n (als mind) r) := by
  intro r
  induction r with
  | zero =>
    intro _
    have a := c_R_atom (d := k) (dp := 6) (inner := none) E hl (fun _ => rfl) (fun f e => by cases e)
    have t := c_R_term (d := k + 4) E (atomS_gp (fun f e => by cases e)) (CRa_c a rfl)
    exact CRa_c (c_R_sum (d := k + 5) E (chS_gp (atomS_gp (fun f e => by cases e)) (by omega) (by omega)) (CRa_c t rfl)) (by omega)
  | succ r ih =>
    intro hr
    have i := ih (by omega)
    have gi1 : ∀ f, some (sumS B n (als mind) r) = some f → GP n f := fun f e => by cases e; exact sumS_gp r
    have a := c_R_atom (d := k + 3 + 3 * r) (dp := 6 - (r + 1)) (inner := some (sumS B n (als mind) r)) E hl (fun e => by cases e) (fun f e => by
      cases e
      refine ⟨sumS_gp r, by omega, ?_⟩
      have e2 : 6 - (r + 1) + 1 = 6 - r := by omega
      rw [e2]
      exact CRa_c i (by omega))
    have t := c_R_term (d := k + 3 + 3 * r + 4) E (atomS_gp gi1) (CRa_c a (by omega))
    exact CRa_c (c_R_sum (d := k + 3 + 3 * r + 5) E (chS_gp (atomS_gp gi1) (by omega) (by omega)) (CRa_c t (by omega))) (by omega)
theorem unit_ok (E : TE h tid b n B mind) {l : Nat → Int32} (hl : ∀ c, c < 128 → gi h 128 c = l c) : ∀ r, r ≤ 6 → ∀ k, CRb (k + 10 + 3 * r) 91 [.ref 107] l h (6 - r) n (uniS B n (als mind) r) ∧ CRb (k + 12 + 3 * r) 93 [.ref 107, .int (nI 0), .int (nI 0)] l h (6 - r) n (cndG B n (uniS B n (als mind) r)) := by
  intro r
  have cond : ∀ r k', r ≤ 6 → CRb (k' + 10 + 3 * r) 91 [.ref 107] l h (6 - r) n (uniS B n (als mind) r) → CRb (k' + 12 + 3 * r) 93 [.ref 107, .int (nI 0), .int (nI 0)] l h (6 - r) n (cndG B n (uniS B n (als mind) r)) := by
    intro r k' hr u
    have p := c_R_part0 (d := k' + 8 + 3 * r) E (uniS_gp r) (CRb_c u (by omega))
    exact CRb_c (c_R_condition0 (d := k' + 9 + 3 * r) E (chS_gp (uniS_gp r) (by omega) (by omega)) (CRb_c p (by omega))) (by omega)
  induction r with
  | zero =>
    intro _ k
    have s := sum_ok E hl k 0 (by omega)
    have c := c_R_compares0 (d := k + 6) E (sumS_gp 0) (CRa_c s (by omega))
    have u : CRb (k + 10 + 3 * 0) 91 [.ref 107] l h (6 - 0) n (uniS B n (als mind) 0) := CRb_c (c_R_unit (d := k + 7) (iu := none) (ic := none) E (fun _ => rfl) (fun _ => rfl) (fun f e => by rcases e with e | e <;> cases e) (CRb_c c (by omega)) (fun f e => by cases e) (fun f e => by cases e)) (by omega)
    exact ⟨u, cond 0 k (by omega) u⟩
  | succ r ih =>
    intro hr k
    have i1 := (ih (by omega) (k + 2)).1
    have i2 := (ih (by omega) k).2
    have s := sum_ok E hl k (r + 1) hr
    have c := c_R_compares0 (d := k + 9 + 3 * r) E (sumS_gp (r + 1)) (CRa_c s (by omega))
    have e2 : 6 - (r + 1) + 1 = 6 - r := by omega
    have u : CRb (k + 10 + 3 * (r + 1)) 91 [.ref 107] l h (6 - (r + 1)) n (uniS B n (als mind) (r + 1)) := by
      refine CRb_c (c_R_unit (d := k + 10 + 3 * r) (iu := some (uniS B n (als mind) r)) (ic := some (cndG B n (uniS B n (als mind) r))) E (fun e => by cases e) (fun e => by cases e) (fun f _ => by omega) (CRb_c c (by omega)) (fun f e => ?_) (fun f e => ?_)) (by omega)
      · cases e
        rw [e2]
        exact ⟨uniS_gp r, CRb_c i1 (by omega)⟩
      · cases e
        rw [e2]
        exact ⟨cndG_gp (uniS_gp r), CRb_c i2 (by omega)⟩
    exact ⟨u, cond (r + 1) k hr u⟩
/-! ===== the reference: a clause ===== -/
theorem tS_wi (h : AH) (p : Nat) (f : Int32) (dp k : Nat) (v : Int32) (hk : ¬ (k = 33 ∨ k = 34 ∨ k = 35)) : wi (tS h p f dp) 107 k v = tS (wi h 107 k v) p f dp := by
  refine ah_gi ?_ rfl
  funext a j
  unfold tS
  simp only [r_gi_wi]
  by_cases h1 : a = 107
  · subst h1
    by_cases h2 : j = k
    · subst h2
      have e1 : ¬ j = 33 := by omega
      have e2 : ¬ j = 34 := by omega
      have e3 : ¬ j = 35 := by omega
      simp [e1, e2, e3]
    · simp [h2]
  · simp [h1]
def wr1 (l : Nat → Int32) (lb : Nat) (c : Cl) : Prop := c.1 = lb ∧ ∀ cc, c.2.1 = some cc → ¬ (xc l cc []).headD 0 = 0
/-- behind a clause: whether it was found, and what it is worth -/
noncomputable def fdH (h : AH) (l : Nat → Int32) (lb : Nat) (c : Cl) : AH := @ite _ (gi h 107 40 = 0 ∧ wr1 l lb c) (Classical.propDecidable _) (wi (wi h 107 40 (nI 1)) 107 37 ((xc l c.2.2 []).headD 0)) h
def PC (l : Nat → Int32) (h : AH) (lb : Nat) (res : Nat × Option Cl) (r : Option (Option Value)) (h' : AH) : Prop := r = some none ∧ (∀ p, res = (p, none) → ∃ a d, h' = tS h a (nI p) d) ∧ (∀ p c, res = (p, some c) → h' = tS (fdH h l lb c) p (-1) 0)
theorem lfC {l : Nat → Int32} {lb k : Nat} {h h' : AH} {res : Nat × Option Cl} (hr : mR k = none) (h1 : ∀ p, res = (p, none) → ∃ a d, h' = tS h a (nI p) d) (h2 : ∀ p c, res = (p, some c) → h' = tS (fdH h l lb c) p (-1) 0) : rtok (mR k) (some none) ∧ PC l h lb res (some none) h' := by
  rw [hr]
  exact ⟨trivial, rfl, h1, h2⟩
theorem lfCn {l : Nat → Int32} {lb k p a d : Nat} {h : AH} {res : Nat × Option Cl} (hr : mR k = none) (e : res = (p, none)) : rtok (mR k) (some none) ∧ PC l h lb res (some none) (tS h a (nI p) d) := by
  subst e
  exact lfC hr (fun q e => by cases e; exact ⟨a, d, rfl⟩) (fun q c e => by cases e)
theorem lfCs {l : Nat → Int32} {lb k p : Nat} {h h2 : AH} {c : Cl} {res : Nat × Option Cl} (hr : mR k = none) (e : res = (p, some c)) (e2 : h2 = fdH h l lb c) : rtok (mR k) (some none) ∧ PC l h lb res (some none) (tS h2 p (-1) 0) := by
  subst e e2
  exact lfC hr (fun q e => by cases e) (fun q c e => by cases e; rfl)
theorem clsQ_x {B : Nat → Nat} {n lb p : Nat} {al cc : List Nat} (h : ¬ ch B n (sk B n p) = 63) : clsQ B n al lb p cc = (sk B n p, none) := if_neg h
theorem clsQ_n {B : Nat → Nat} {n lb p p2 : Nat} {al cc : List Nat} (h : ch B n (sk B n p) = 63) (e : sumS B n al 6 (sk B n p + 1) = (p2, none)) : clsQ B n al lb p cc = (p2, none) := by
  unfold clsQ
  simp only [if_pos h, e]
theorem clsQ_s {B : Nat → Nat} {n lb p p2 : Nat} {al cc cd : List Nat} (h : ch B n (sk B n p) = 63) (e : sumS B n al 6 (sk B n p + 1) = (p2, some cd)) : clsQ B n al lb p cc = (p2, some (lb, some cc, cd)) := by
  unfold clsQ
  simp only [if_pos h, e]
theorem Vl_hd {l : Nat → Int32} {cd : List Nat} {v : Int32} (h : Vl l cd v) : (xc l cd []).headD 0 = v := by rw [h []]; rfl
variable {d : Nat}
/-- the end of a clause that was read -/
theorem cl_end (E : TE h tid b n B mind) {l : Nat → Int32} {lb : Nat} (hlb : lb < 4294967296) (h36 : gi h 107 36 = nI lb) {P : Nat → LL → List Value → AH → Nat → Nat → Prop} {res : Nat × Option Cl} (hP : Clo (Mz d) 94 0 0 (PC l h lb res) P) {c : Cl} {p : Nat} (hc : c.1 < 256) (x : Option Value) (t : Prop) {v : Int32} (ht : t ↔ ∀ cc, c.2.1 = some cc → ¬ (xc l cc []).headD 0 = 0) (hv : (xc l c.2.2 []).headD 0 = v) (e : res = (p, some c)) (h40 : gi h 107 40 = 0 ∨ gi h 107 40 = nI 1) : P 141 [some (.ref 107), some (.int (nI c.1)), some (.int (bP t)), some (.int (v)), x] [] (tS h p (-1) 0) 0 0 := by
  have L := E.1.1
  have no : ¬ (gi h 107 40 = 0 ∧ wr1 l lb c) → h = fdH h l lb c := fun q => (if_neg q).symm
  have ye : (gi h 107 40 = 0 ∧ wr1 l lb c) → wi (wi h 107 40 (nI 1)) 107 37 v = fdH h l lb c := fun q => by
    unfold fdH
    rw [if_pos q, hv]
  have j168 : ¬ (gi h 107 40 = 0 ∧ wr1 l lb c) → P 168 [some (.ref 107), some (.int (nI c.1)), some (.int (bP t)), some (.int (v)), x] [] (tS h p (-1) 0) 0 0 := by
    intro q
    refine hP.1 _ _ s_R_clause_168 _ _ _ _ _ ?_
    simp (maxSteps := 1000000) (disch := omega) only [g_R_clause_168, slk, List.map_cons, List.map_nil, List.sum_cons, List.sum_nil, vc_i, vc_r, vc_n, vc_l, vc_o, Nat.add_zero, kO_e, kA_e, hdO_a, eq_self, blk, stp, lg, ls0, lk, ls1, ls2, kI_i, kL_l, kR_r, kR_n, kR_o, s1I_i, s2I_i, s1L_l, s2L_l, s1R_r, s1R_n, s1R_o, s1A_a, cmpc, popn, swt, rf_s, rf_n, cat_i, cat_r, cat_n, cat_l, true_and, and_true, List.length_cons, List.length_nil, Nat.zero_add, Int.reduceToNat, Nat.reduceAdd, Nat.reduceDiv, Nat.reduceMod, Nat.reduceMul, Nat.reduceSub, Nat.reduceLeDiff, Nat.reduceLT, Nat.reduceEqDiff, ↓reduceIte, r_gr_wi, r_gl_wi, r_gk_wi, r_gn_wi, r_wi_eq, r_wi_ne, r_wi_nj, r_gi_wr, r_gl_wr, r_gk_wr, r_gn_wr, r_gr_wa, r_gl_wa, r_gk_wa, r_gn_wa, u_lt, u_le, u_gt, u_ge, u_lt0, u_le0, u_gt0, u_ge0, Classical.not_not, not_true_eq_false, not_false_eq_true, oi_n, oi_m, n_dec, nI_add, pk_mul, n_sub, n_eq, n_le, n_lt, n_eq0, n_lt0, n_le0, n_0lt, n_0le, n_eqm, m_eqn, n_ltm, n_and, n_or, n_xor, n_shl, n_shr, tb1, tb0, bP_1, bP_0, bP_n0, ix_n, inb_n, u_eq, u_eqm]
    exact lfCs r_R_clause e (no q)
  rcases h40 with h40 | h40
  · skip
    refine hP.1 _ _ s_R_clause_141 _ _ _ _ _ ?_
    simp (maxSteps := 1000000) (disch := omega) only [g_R_clause_141, slk, List.map_cons, List.map_nil, List.sum_cons, List.sum_nil, vc_i, vc_r, vc_n, vc_l, vc_o, Nat.add_zero, kO_e, kA_e, hdO_a, eq_self, blk, stp, lg, ls0, lk, ls1, ls2, kI_i, kL_l, kR_r, kR_n, kR_o, s1I_i, s2I_i, s1L_l, s2L_l, s1R_r, s1R_n, s1R_o, s1A_a, cmpc, popn, swt, rf_s, rf_n, cat_i, cat_r, cat_n, cat_l, true_and, and_true, List.length_cons, List.length_nil, Nat.zero_add, Int.reduceToNat, Nat.reduceAdd, Nat.reduceDiv, Nat.reduceMod, Nat.reduceMul, Nat.reduceSub, Nat.reduceLeDiff, Nat.reduceLT, Nat.reduceEqDiff, ↓reduceIte, r_gr_wi, r_gl_wi, r_gk_wi, r_gn_wi, r_wi_eq, r_wi_ne, r_wi_nj, r_gi_wr, r_gl_wr, r_gk_wr, r_gn_wr, r_gr_wa, r_gl_wa, r_gk_wa, r_gn_wa, u_lt, u_le, u_gt, u_ge, u_lt0, u_le0, u_gt0, u_ge0, Classical.not_not, not_true_eq_false, not_false_eq_true, oi_n, oi_m, n_dec, nI_add, pk_mul, n_sub, n_eq, n_le, n_lt, n_eq0, n_lt0, n_le0, n_0lt, n_0le, n_eqm, m_eqn, n_ltm, n_and, n_or, n_xor, n_shl, n_shr, tb1, tb0, bP_1, bP_0, bP_n0, ix_n, inb_n, u_eq, u_eqm, k107 L, tS_33, tS_34, tS_35, tS_gk, tS_gr, tS_w33, tS_w35, tS_107, tS_wi, tS_at, chV_eq, chV_m, h36, h40, true_or, or_true, n1_1]
    refine ⟨fun hc1 => ?_, fun hc1 => ?_⟩
    · (first | contradiction | exact j168 (fun q => hc3 q.2.1) | exact j168 (fun q => hc4 (ht.mpr q.2.2)) | (exfalso; exact hc2 rfl))
    · skip
      refine hP.1 _ _ s_R_clause_149 _ _ _ _ _ ?_
      simp (maxSteps := 1000000) (disch := omega) only [g_R_clause_149, slk, List.map_cons, List.map_nil, List.sum_cons, List.sum_nil, vc_i, vc_r, vc_n, vc_l, vc_o, Nat.add_zero, kO_e, kA_e, hdO_a, eq_self, blk, stp, lg, ls0, lk, ls1, ls2, kI_i, kL_l, kR_r, kR_n, kR_o, s1I_i, s2I_i, s1L_l, s2L_l, s1R_r, s1R_n, s1R_o, s1A_a, cmpc, popn, swt, rf_s, rf_n, cat_i, cat_r, cat_n, cat_l, true_and, and_true, List.length_cons, List.length_nil, Nat.zero_add, Int.reduceToNat, Nat.reduceAdd, Nat.reduceDiv, Nat.reduceMod, Nat.reduceMul, Nat.reduceSub, Nat.reduceLeDiff, Nat.reduceLT, Nat.reduceEqDiff, ↓reduceIte, r_gr_wi, r_gl_wi, r_gk_wi, r_gn_wi, r_wi_eq, r_wi_ne, r_wi_nj, r_gi_wr, r_gl_wr, r_gk_wr, r_gn_wr, r_gr_wa, r_gl_wa, r_gk_wa, r_gn_wa, u_lt, u_le, u_gt, u_ge, u_lt0, u_le0, u_gt0, u_ge0, Classical.not_not, not_true_eq_false, not_false_eq_true, oi_n, oi_m, n_dec, nI_add, pk_mul, n_sub, n_eq, n_le, n_lt, n_eq0, n_lt0, n_le0, n_0lt, n_0le, n_eqm, m_eqn, n_ltm, n_and, n_or, n_xor, n_shl, n_shr, tb1, tb0, bP_1, bP_0, bP_n0, ix_n, inb_n, u_eq, u_eqm, k107 L, tS_33, tS_34, tS_35, tS_gk, tS_gr, tS_w33, tS_w35, tS_107, tS_wi, tS_at, chV_eq, chV_m, h36, h40, true_or, or_true, n1_1]
      refine ⟨fun hc2 => ?_, fun hc2 => ?_⟩
      · (first | contradiction | exact j168 (fun q => hc3 q.2.1) | exact j168 (fun q => hc4 (ht.mpr q.2.2)) | (exfalso; exact hc2 rfl))
      · skip
        refine hP.1 _ _ s_R_clause_156 _ _ _ _ _ ?_
        simp (maxSteps := 1000000) (disch := omega) only [g_R_clause_156, slk, List.map_cons, List.map_nil, List.sum_cons, List.sum_nil, vc_i, vc_r, vc_n, vc_l, vc_o, Nat.add_zero, kO_e, kA_e, hdO_a, eq_self, blk, stp, lg, ls0, lk, ls1, ls2, kI_i, kL_l, kR_r, kR_n, kR_o, s1I_i, s2I_i, s1L_l, s2L_l, s1R_r, s1R_n, s1R_o, s1A_a, cmpc, popn, swt, rf_s, rf_n, cat_i, cat_r, cat_n, cat_l, true_and, and_true, List.length_cons, List.length_nil, Nat.zero_add, Int.reduceToNat, Nat.reduceAdd, Nat.reduceDiv, Nat.reduceMod, Nat.reduceMul, Nat.reduceSub, Nat.reduceLeDiff, Nat.reduceLT, Nat.reduceEqDiff, ↓reduceIte, r_gr_wi, r_gl_wi, r_gk_wi, r_gn_wi, r_wi_eq, r_wi_ne, r_wi_nj, r_gi_wr, r_gl_wr, r_gk_wr, r_gn_wr, r_gr_wa, r_gl_wa, r_gk_wa, r_gn_wa, u_lt, u_le, u_gt, u_ge, u_lt0, u_le0, u_gt0, u_ge0, Classical.not_not, not_true_eq_false, not_false_eq_true, oi_n, oi_m, n_dec, nI_add, pk_mul, n_sub, n_eq, n_le, n_lt, n_eq0, n_lt0, n_le0, n_0lt, n_0le, n_eqm, m_eqn, n_ltm, n_and, n_or, n_xor, n_shl, n_shr, tb1, tb0, bP_1, bP_0, bP_n0, ix_n, inb_n, u_eq, u_eqm, k107 L, tS_33, tS_34, tS_35, tS_gk, tS_gr, tS_w33, tS_w35, tS_107, tS_wi, tS_at, chV_eq, chV_m, h36, h40, true_or, or_true, n1_1]
        refine ⟨fun hc3 => ?_, fun hc3 => ?_⟩
        · (first | contradiction | exact j168 (fun q => hc3 q.2.1) | exact j168 (fun q => hc4 (ht.mpr q.2.2)) | (exfalso; exact hc2 rfl))
        · skip
          refine hP.1 _ _ s_R_clause_164 _ _ _ _ _ ?_
          simp (maxSteps := 1000000) (disch := omega) only [g_R_clause_164, slk, List.map_cons, List.map_nil, List.sum_cons, List.sum_nil, vc_i, vc_r, vc_n, vc_l, vc_o, Nat.add_zero, kO_e, kA_e, hdO_a, eq_self, blk, stp, lg, ls0, lk, ls1, ls2, kI_i, kL_l, kR_r, kR_n, kR_o, s1I_i, s2I_i, s1L_l, s2L_l, s1R_r, s1R_n, s1R_o, s1A_a, cmpc, popn, swt, rf_s, rf_n, cat_i, cat_r, cat_n, cat_l, true_and, and_true, List.length_cons, List.length_nil, Nat.zero_add, Int.reduceToNat, Nat.reduceAdd, Nat.reduceDiv, Nat.reduceMod, Nat.reduceMul, Nat.reduceSub, Nat.reduceLeDiff, Nat.reduceLT, Nat.reduceEqDiff, ↓reduceIte, r_gr_wi, r_gl_wi, r_gk_wi, r_gn_wi, r_wi_eq, r_wi_ne, r_wi_nj, r_gi_wr, r_gl_wr, r_gk_wr, r_gn_wr, r_gr_wa, r_gl_wa, r_gk_wa, r_gn_wa, u_lt, u_le, u_gt, u_ge, u_lt0, u_le0, u_gt0, u_ge0, Classical.not_not, not_true_eq_false, not_false_eq_true, oi_n, oi_m, n_dec, nI_add, pk_mul, n_sub, n_eq, n_le, n_lt, n_eq0, n_lt0, n_le0, n_0lt, n_0le, n_eqm, m_eqn, n_ltm, n_and, n_or, n_xor, n_shl, n_shr, tb1, tb0, bP_1, bP_0, bP_n0, ix_n, inb_n, u_eq, u_eqm, tS_33, tS_34, tS_35, tS_gk, tS_gr, tS_w33, tS_w35, tS_107, tS_wi, tS_at, chV_eq, chV_m, h36, h40, true_or, or_true, n1_1]
          refine ⟨fun hc4 => ?_, fun hc4 => ?_⟩
          · refine hP.1 _ _ s_R_clause_169 _ _ _ _ _ ?_
            simp (maxSteps := 1000000) (disch := omega) only [g_R_clause_169, slk, List.map_cons, List.map_nil, List.sum_cons, List.sum_nil, vc_i, vc_r, vc_n, vc_l, vc_o, Nat.add_zero, kO_e, kA_e, hdO_a, eq_self, blk, stp, lg, ls0, lk, ls1, ls2, kI_i, kL_l, kR_r, kR_n, kR_o, s1I_i, s2I_i, s1L_l, s2L_l, s1R_r, s1R_n, s1R_o, s1A_a, cmpc, popn, swt, rf_s, rf_n, cat_i, cat_r, cat_n, cat_l, true_and, and_true, List.length_cons, List.length_nil, Nat.zero_add, Int.reduceToNat, Nat.reduceAdd, Nat.reduceDiv, Nat.reduceMod, Nat.reduceMul, Nat.reduceSub, Nat.reduceLeDiff, Nat.reduceLT, Nat.reduceEqDiff, ↓reduceIte, r_gr_wi, r_gl_wi, r_gk_wi, r_gn_wi, r_wi_eq, r_wi_ne, r_wi_nj, r_gi_wr, r_gl_wr, r_gk_wr, r_gn_wr, r_gr_wa, r_gl_wa, r_gk_wa, r_gn_wa, u_lt, u_le, u_gt, u_ge, u_lt0, u_le0, u_gt0, u_ge0, Classical.not_not, not_true_eq_false, not_false_eq_true, oi_n, oi_m, n_dec, nI_add, pk_mul, n_sub, n_eq, n_le, n_lt, n_eq0, n_lt0, n_le0, n_0lt, n_0le, n_eqm, m_eqn, n_ltm, n_and, n_or, n_xor, n_shl, n_shr, tb1, tb0, bP_1, bP_0, bP_n0, ix_n, inb_n, u_eq, u_eqm, k107 L, tS_33, tS_34, tS_35, tS_gk, tS_gr, tS_w33, tS_w35, tS_107, tS_wi, tS_at, chV_eq, chV_m, h36, h40, true_or, or_true, n1_1]
            exact lfCs r_R_clause e (ye ⟨h40, by omega, ht.mp hc4⟩)
          · skip
            (first | contradiction | exact j168 (fun q => hc3 q.2.1) | exact j168 (fun q => hc4 (ht.mpr q.2.2)) | (exfalso; exact hc2 rfl))
  · have h41 : ¬ gi h 107 40 = 0 := by rw [h40]; decide
    refine hP.1 _ _ s_R_clause_141 _ _ _ _ _ ?_
    simp (maxSteps := 1000000) (disch := omega) only [g_R_clause_141, slk, List.map_cons, List.map_nil, List.sum_cons, List.sum_nil, vc_i, vc_r, vc_n, vc_l, vc_o, Nat.add_zero, kO_e, kA_e, hdO_a, eq_self, blk, stp, lg, ls0, lk, ls1, ls2, kI_i, kL_l, kR_r, kR_n, kR_o, s1I_i, s2I_i, s1L_l, s2L_l, s1R_r, s1R_n, s1R_o, s1A_a, cmpc, popn, swt, rf_s, rf_n, cat_i, cat_r, cat_n, cat_l, true_and, and_true, List.length_cons, List.length_nil, Nat.zero_add, Int.reduceToNat, Nat.reduceAdd, Nat.reduceDiv, Nat.reduceMod, Nat.reduceMul, Nat.reduceSub, Nat.reduceLeDiff, Nat.reduceLT, Nat.reduceEqDiff, ↓reduceIte, r_gr_wi, r_gl_wi, r_gk_wi, r_gn_wi, r_wi_eq, r_wi_ne, r_wi_nj, r_gi_wr, r_gl_wr, r_gk_wr, r_gn_wr, r_gr_wa, r_gl_wa, r_gk_wa, r_gn_wa, u_lt, u_le, u_gt, u_ge, u_lt0, u_le0, u_gt0, u_ge0, Classical.not_not, not_true_eq_false, not_false_eq_true, oi_n, oi_m, n_dec, nI_add, pk_mul, n_sub, n_eq, n_le, n_lt, n_eq0, n_lt0, n_le0, n_0lt, n_0le, n_eqm, m_eqn, n_ltm, n_and, n_or, n_xor, n_shl, n_shr, tb1, tb0, bP_1, bP_0, bP_n0, ix_n, inb_n, u_eq, u_eqm, k107 L, tS_33, tS_34, tS_35, tS_gk, tS_gr, tS_w33, tS_w35, tS_107, tS_wi, tS_at, chV_eq, chV_m, h36, h40]
    refine ⟨fun q => by first | exact q.elim | exact absurd rfl q, fun _ => ?_⟩
    refine hP.1 _ _ s_R_clause_149 _ _ _ _ _ ?_
    simp (maxSteps := 1000000) (disch := omega) only [g_R_clause_149, slk, List.map_cons, List.map_nil, List.sum_cons, List.sum_nil, vc_i, vc_r, vc_n, vc_l, vc_o, Nat.add_zero, kO_e, kA_e, hdO_a, eq_self, blk, stp, lg, ls0, lk, ls1, ls2, kI_i, kL_l, kR_r, kR_n, kR_o, s1I_i, s2I_i, s1L_l, s2L_l, s1R_r, s1R_n, s1R_o, s1A_a, cmpc, popn, swt, rf_s, rf_n, cat_i, cat_r, cat_n, cat_l, true_and, and_true, List.length_cons, List.length_nil, Nat.zero_add, Int.reduceToNat, Nat.reduceAdd, Nat.reduceDiv, Nat.reduceMod, Nat.reduceMul, Nat.reduceSub, Nat.reduceLeDiff, Nat.reduceLT, Nat.reduceEqDiff, ↓reduceIte, r_gr_wi, r_gl_wi, r_gk_wi, r_gn_wi, r_wi_eq, r_wi_ne, r_wi_nj, r_gi_wr, r_gl_wr, r_gk_wr, r_gn_wr, r_gr_wa, r_gl_wa, r_gk_wa, r_gn_wa, u_lt, u_le, u_gt, u_ge, u_lt0, u_le0, u_gt0, u_ge0, Classical.not_not, not_true_eq_false, not_false_eq_true, oi_n, oi_m, n_dec, nI_add, pk_mul, n_sub, n_eq, n_le, n_lt, n_eq0, n_lt0, n_le0, n_0lt, n_0le, n_eqm, m_eqn, n_ltm, n_and, n_or, n_xor, n_shl, n_shr, tb1, tb0, bP_1, bP_0, bP_n0, ix_n, inb_n, u_eq, u_eqm, k107 L, tS_33, tS_34, tS_35, tS_gk, tS_gr, tS_w33, tS_w35, tS_107, tS_wi, tS_at, chV_eq, chV_m, h36, h40]
    refine ⟨fun _ => j168 (fun q => h41 q.1), fun q => absurd q (by decide)⟩
end
